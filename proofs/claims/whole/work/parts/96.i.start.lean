/-! ===== the two at their start ===== -/
theorem Ev.uniq {e : Nat → Int32} {x : List Int32} {v v' : Int32} (h : Ev e x v) (h' : Ev e x v') (hl : x.length ≤ 160) : v = v' :=
  (h.at (A := 0) (cd := fun i => x.getD i 0) (sk := z0) hl (fun i _ => by rw [Nat.zero_add])).symm.trans (h'.at (A := 0) (cd := fun i => x.getD i 0) (sk := z0) hl (fun i _ => by rw [Nat.zero_add]))
theorem TX_same {B B' : Nat → Int32} {x y w : List Int32} (h : rText (sg B) (nx B) cA (skp B 0) = .inr (x, y, w)) (h' : rText (sg B') (nx B') cA (skp B' 0) = .inr (x, y, w)) (hx : x.length ≤ 160) (hy : y.length ≤ 160) (hw : w.length ≤ 160) (e : Nat → Int32) : rText (sg B) (nx B) (vA e) (skp B 0) = rText (sg B') (nx B') (vA e) (skp B' 0) := by
  have t := TE.text (S := sg B) (nxt := nx B) (hm_Ev e) (skp B 0)
  have t' := TE.text (S := sg B') (nxt := nx B') (hm_Ev e) (skp B' 0)
  rw [h] at t
  rw [h'] at t'
  revert t t'
  generalize rText (sg B) (nx B) (vA e) (skp B 0) = r
  generalize rText (sg B') (nx B') (vA e) (skp B' 0) = r'
  rcases r with q | ⟨a, b, d⟩
  · intro t; exact t.elim
  rcases r' with q | ⟨a', b', d'⟩
  · intro _ t; exact t.elim
  rintro ⟨t1, t2, t3⟩ ⟨s1, s2, s3⟩
  rw [t1.uniq s1 hx, t2.uniq s2 hy, t3.uniq s3 hw]
theorem B48_text : rText (sg (Bt TXq5 0 48)) (nx (Bt TXq5 0 48)) cA (skp (Bt TXq5 0 48) 0) = .inr ([-1, 15, -18], [-5], [-1]) := by decide +kernel
theorem B48_b : ∀ j, j < 48 → 0 ≤ TXq5 (0 + j) ∧ TXq5 (0 + j) ≤ 255 := by decide +kernel
def GN0 : Nat → Int32 := upd gI0 3 1
def AN0 : Nat → Nat → Int32 := up2 (up2 aI0 1 TXq5) 2 (upd (aI0 2) 0 48)
theorem AN0_rd (e : Nat → Int32) : rdT AN0 0 48 e = rText (sg (Bt TXq5 0 48)) (nx (Bt TXq5 0 48)) (vA e) (skp (Bt TXq5 0 48) 0) := rfl
theorem AN0_2 : (AN0 2 0).toNatClampNeg = 48 := by decide
theorem INV.new {v z' : Nat → Int32} {b' : Nat → Nat → Int32} {f' e' : Nat → Int32} (h : TXok f' e' 5 (txV B0)) : INV (hX gN (up2 zN0 5 v) zN0 uN zN0 z' b' cN zN0 0 1 (nwT 0 5 f' e')) (hC GN0 gI0 0 AN0 aI0) := by
  refine INV.of (m := 0) (n := 0) (Vs := fun _ => txV B0) ⟨⟨⟨nI_0.symm, nI_0.symm, by decide⟩, ⟨rfl, rfl, by decide⟩, ⟨nI_0.symm, nI_0.symm, by decide⟩, ⟨nI_0.symm, nI_0.symm, by decide⟩, rfl⟩, ⟨rfl, fun i hi => ?_, fun i hi => ?_⟩, fun j hj => absurd hj (Nat.not_lt_zero j), fun s hs => ⟨0, by decide, nI_0.symm, nI_0.symm⟩, fun x hx => absurd hx (Nat.not_lt_zero x), fun x _ => .inl rfl, .inl ⟨rfl, rfl⟩, fun j hj => .inl ⟨rfl, rfl⟩⟩
  · obtain rfl : i = 0 := by omega
    exact ⟨f', e', 5, ⟨rfl, rfl, rfl⟩, h⟩
  · obtain rfl : i = 0 := by omega
    refine ⟨?_, fun e k => ?_⟩
    · unfold Std1
      rw [AN0_2]
      exact ⟨by decide, rfl, ⟨by decide, by decide, B48_b⟩, fun e => by rw [AN0_rd]; exact TX_std B48_text e⟩
    · rw [AN0_2, AN0_rd, TX_same B48_text B0_text (by decide) (by decide) (by decide) e]
      rfl
theorem hC_wf {g z : Nat → Int32} {w : Int64} {a b : Nat → Nat → Int32} : ∀ e ∈ hC g z w a b, wfE 18 e :=
  List.forall_mem_cons.mpr ⟨wfe_of rfl, List.forall_mem_cons.mpr ⟨wfe_of rfl, List.forall_mem_cons.mpr ⟨wfe_of rfl, List.forall_mem_cons.mpr ⟨wfe_of rfl, List.forall_mem_cons.mpr ⟨wfe_of rfl, List.forall_mem_cons.mpr ⟨wfe_of rfl, List.forall_mem_cons.mpr ⟨wfe_of rfl, List.forall_mem_cons.mpr ⟨wfe_of rfl, List.forall_mem_cons.mpr ⟨wfe_of rfl, List.forall_mem_cons.mpr ⟨wfe_of rfl, List.forall_mem_cons.mpr ⟨wfe_of rfl, List.forall_mem_cons.mpr ⟨wfe_of rfl, List.forall_mem_cons.mpr ⟨wfe_of rfl, List.forall_mem_cons.mpr ⟨wfe_of rfl, List.forall_mem_cons.mpr ⟨wfe_of rfl, List.forall_mem_cons.mpr ⟨wfe_of rfl, List.forall_mem_cons.mpr ⟨wfe_of rfl, List.forall_mem_cons.mpr ⟨wfe_of rfl, fun _ h => absurd h List.not_mem_nil⟩⟩⟩⟩⟩⟩⟩⟩⟩⟩⟩⟩⟩⟩⟩⟩⟩⟩
theorem INV.wf {hx hm : PH} (h : INV hx hm) : (∀ e ∈ hx, wfE hx.length e) ∧ ∀ e ∈ hm, wfE hm.length e := by
  obtain ⟨g, a, q, u, v, z, b, c, y, t, tc, TX, G, Z, W, A, B, m, n, Vs, h, rfl, rfl⟩ := h
  obtain ⟨⟨_, ⟨_, _, c6⟩, ⟨_, _, tt⟩, _⟩, ⟨xl, xs, _⟩, _⟩ := h
  refine ⟨hX_wf xl tt (TX_wf xl (fun i hi => ?_)), by rw [hC_len]; exact hC_wf⟩
  obtain ⟨cd, en, L, h1, _⟩ := xs i hi
  exact ⟨cd, en, L, h1⟩
/-- what stands first: the object of its kind -/
theorem INV.obj {hx hm : PH} (h : INV hx hm) : (∃ fs, lg hx 0 = some (.inr (7, fs))) ∧ ∃ fs, lg hm 0 = some (.inr (8, fs)) := by
  obtain ⟨g, a, q, u, v, z, b, c, y, t, tc, TX, G, Z, W, A, B, m, n, Vs, h, rfl, rfl⟩ := h
  exact ⟨⟨_, rfl⟩, ⟨_, rfl⟩⟩
