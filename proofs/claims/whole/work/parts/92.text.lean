/-! ===== laid by program (wip/tools) ===== -/
theorem Bt_of {tp B : Nat → Int32} {n : Nat} (h : RdOK tp n B) : B = Bt tp 0 n := by
  funext j
  unfold Bt
  by_cases hj : j < n
  · rw [if_pos hj, Nat.zero_add]; exact (h.2.1 j hj).symm
  · rw [if_neg hj]; exact h.2.2 j (by omega)
theorem ps_le {tp B : Nat → Int32} {n : Nat} (h : RdOK tp n B) : ∀ k, ps B k ≤ n
  | 0 => by
    show skp B 0 ≤ n
    rw [Bt_of h]; exact skp_le (Nat.zero_le _)
  | k + 1 => by
    have ih := ps_le h k
    show nx B (ps B k) ≤ n
    rw [Bt_of h] at ih ⊢
    exact nx_le ih
abbrev FV : Type := (Nat → Int32) × (Nat → Int32) × (Nat → Int32) × (Nat → Int32) × Int32 × Int32
theorem fault_bad {tp B : Nat → Int32} {n q : Nat} (hR : RdOK tp n B) (hb : ∀ j, j < n → 0 ≤ B j) (hX : rText (sg B) (nx B) cA (skp B 0) = .inl q) {s0 p0 cd ed : Nat → Int32} {po sz : Int32} : P0 63 0 0 mX4_faultOf (0, ent 4 [.ref 0, .ref 5, .int (nI n)], [], [pO 3 [.ref 1, .ref 2, .ref 3, .ref 4, .int po, .int sz], pI 161 s0, pI 161 p0, pI 160 cd, pI 3 ed, pI 160 tp]) (fun r h' => ∃ e : FV, q ≤ n ∧ r = some (.int (nI q)) ∧ h' = [pO 3 [.ref 1, .ref 2, .ref 3, .ref 4, .int e.2.2.2.2.1, .int e.2.2.2.2.2], pI 161 e.1, pI 161 e.2.1, pI 160 e.2.2.1, pI 3 e.2.2.2.1, pI 160 tp]) :=
  P0.mono (fault_n hR hb) (Nat.le_refl _) (Nat.le_refl _) (Nat.le_refl _) (fun r h' hq => by
    unfold FQ at hq
    rw [hX] at hq
    obtain ⟨⟨k, hk⟩, s, p, c, e, po, sz, h1, h2⟩ := hq
    exact ⟨(s, p, c, e, po, sz), hk ▸ ps_le hR k, h1, h2⟩)
theorem fault_ok {tp B : Nat → Int32} {n : Nat} {x y w : List Int32} (hR : RdOK tp n B) (hb : ∀ j, j < n → 0 ≤ B j) (hX : rText (sg B) (nx B) cA (skp B 0) = .inr (x, y, w)) {s0 p0 cd ed : Nat → Int32} {po sz : Int32} : P0 63 0 0 mX4_faultOf (0, ent 4 [.ref 0, .ref 5, .int (nI n)], [], [pO 3 [.ref 1, .ref 2, .ref 3, .ref 4, .int po, .int sz], pI 161 s0, pI 161 p0, pI 160 cd, pI 3 ed, pI 160 tp]) (fun r h' => ∃ e : FV, TR e.2.2.1 e.2.2.2.1 x y w ∧ r = some (.int (-1)) ∧ h' = [pO 3 [.ref 1, .ref 2, .ref 3, .ref 4, .int e.2.2.2.2.1, .int (nI (x.length + y.length + w.length))], pI 161 e.1, pI 161 e.2.1, pI 160 e.2.2.1, pI 3 e.2.2.2.1, pI 160 tp]) :=
  P0.mono (fault_n hR hb) (Nat.le_refl _) (Nat.le_refl _) (Nat.le_refl _) (fun r h' hq => by
    unfold FQ at hq
    rw [hX] at hq
    obtain ⟨s, p, c, e, po, h1, h2, h3⟩ := hq
    exact ⟨(s, p, c, e, po, 0), h2, h1, h3⟩)
theorem nI_nm1 {q : Nat} (h : q ≤ 160) : ¬ nI q = -1 := by
  have : ∀ q, q < 161 → ¬ nI q = -1 := by decide +kernel
  exact this q (by omega)
/-- a text's three cells -/
def nwT (i z : Nat) (f e : Nat → Int32) : PH := [pO 5 [.ref (47 + 3 * i), .ref (48 + 3 * i)], pI z f, pI 3 e]
theorem lg_app {h h2 : PH} {k : Nat} : lg (h ++ h2) (h.length + k) = lg h2 k := by
  rw [lg_eq, lg_eq, List.getElem?_append_right (by omega), Nat.add_sub_cancel_left]
theorem lg_app1 {h h2 : PH} {k : Nat} (hk : k < h.length) : lg (h ++ h2) k = lg h k := by
  rw [lg_eq, lg_eq, List.getElem?_append_left hk]
theorem TxI.new {TX : PH} {tc z : Nat} {f e : Nat → Int32} (hl : TX.length = 3 * tc) : TxI (TX ++ nwT tc z f e) tc f e z :=
  by
  have h0 := lg_app (h := TX) (h2 := nwT tc z f e) (k := 0)
  have h1 := lg_app (h := TX) (h2 := nwT tc z f e) (k := 1)
  have h2 := lg_app (h := TX) (h2 := nwT tc z f e) (k := 2)
  rw [hl] at h0 h1 h2
  exact ⟨h0, h1, h2⟩
theorem lg_lt {h : PH} {k : Nat} {e : va_E} (hh : lg h k = some e) : k < h.length := by rw [lg_eq] at hh; exact (List.getElem?_eq_some_iff.mp hh).1
theorem TxI.old {TX N : PH} {i L : Nat} {cd en : Nat → Int32} (h : TxI TX i cd en L) : TxI (TX ++ N) i cd en L :=
  ⟨(lg_app1 (lg_lt h.1)).trans h.1, (lg_app1 (lg_lt h.2.1)).trans h.2.1, (lg_app1 (lg_lt h.2.2)).trans h.2.2⟩
/-- references of the world stand for cells that are there -/
theorem TX_wf {TX : PH} {tc : Nat} (hl : TX.length = 3 * tc) (hT : ∀ i, i < tc → ∃ cd en L, TxI TX i cd en L) : ∀ e ∈ TX, wfE (TX.length + 46) e := fun e he => by
  obtain ⟨k, hk, rfl⟩ := List.getElem_of_mem he
  obtain ⟨cd, en, L, h0, h1, h2⟩ := hT (k / 3) (by omega)
  have hg : lg TX k = some TX[k] := by rw [lg_eq]; exact List.getElem?_eq_getElem hk
  have h3 : k = 3 * (k / 3) ∨ k = 3 * (k / 3) + 1 ∨ k = 3 * (k / 3) + 2 := by omega
  rcases h3 with h3 | h3 | h3
  · rw [← h3, hg] at h0
    rw [Option.some.inj h0]
    intro v hv
    have g1 : (47 + k : Nat) < TX.length + 46 := by omega
    have g2 : (48 + k : Nat) < TX.length + 46 := by omega
    rcases List.mem_cons.mp hv with rfl | hv
    · exact Or.inl g1
    · rcases List.mem_cons.mp hv with rfl | hv
      · exact Or.inl g2
      · exact absurd hv List.not_mem_nil
  · rw [← h3, hg] at h1
    rw [Option.some.inj h1]
    trivial
  · rw [← h3, hg] at h2
    rw [Option.some.inj h2]
    trivial
theorem wf_k {N j k : Nat} (h : Wk j = some k) : k < N + 46 ∨ sB ≤ k := by
  unfold Wk at h
  split at h
  · cases h; exact .inl (by omega)
  · cases h
theorem wf_s {N j k : Nat} (h : Wsh j = some k) : k < N + 46 ∨ sB ≤ k := by
  unfold Wsh at h
  split at h
  · cases h; exact .inl (by omega)
  · cases h
theorem wf_t {N tc j k : Nat} (hl : N = 3 * tc) (h : Wt tc j = some k) : k < N + 46 ∨ sB ≤ k := by
  unfold Wt at h
  split at h
  · cases h; exact .inl (by omega)
  · cases h
theorem wf_main {N t tc : Nat} {g : Nat → Int32} (ht : t < tc) (hl : N = 3 * tc) : wfE (N + 46) (pO 7 [.ref 1, .ref 2, .ref 3, .ref 4, .ref 5, .ref 6, .ref 7, .ref 12, .ref 14, .ref 19, .ref 24, .ref 25, .int (g 0), .int (g 1), .int (g 2), .int (g 3), .int (g 4), .ref (46 + 3 * t)]) := by
  intro v hv
  rcases List.mem_append.mp (show v ∈ [.ref 1, .ref 2, .ref 3, .ref 4, .ref 5, .ref 6, .ref 7, .ref 12, .ref 14, .ref 19, .ref 24, .ref 25, .int (g 0), .int (g 1), .int (g 2), .int (g 3), .int (g 4)] ++ [Value.ref (46 + 3 * t)] from hv) with h | h
  · exact (wfe_of (n := N + 46) (e := pO 7 [.ref 1, .ref 2, .ref 3, .ref 4, .ref 5, .ref 6, .ref 7, .ref 12, .ref 14, .ref 19, .ref 24, .ref 25, .int (g 0), .int (g 1), .int (g 2), .int (g 3), .int (g 4)]) rfl) v h
  · have g1 : (46 + 3 * t : Nat) < N + 46 := by omega
    rcases List.mem_cons.mp h with rfl | h
    · exact Or.inl g1
    · exact absurd h List.not_mem_nil
theorem hX_wf {g z : Nat → Int32} {a q u v b c y : Nat → Nat → Int32} {t tc : Nat} {TX : PH} (hl : TX.length = 3 * tc) (ht : t < tc) (hW : ∀ e ∈ TX, wfE (TX.length + 46) e) : ∀ e ∈ hX g a q u v z b c y t tc TX, wfE (hX g a q u v z b c y t tc TX).length e := by
  rw [hX_len]
  exact List.forall_mem_cons.mpr ⟨wf_main ht hl, List.forall_mem_cons.mpr ⟨wfe_of rfl, List.forall_mem_cons.mpr ⟨wfe_of rfl, List.forall_mem_cons.mpr ⟨(fun j k h => wf_k h), List.forall_mem_cons.mpr ⟨(fun j k h => wf_t hl h), List.forall_mem_cons.mpr ⟨wfe_of rfl, List.forall_mem_cons.mpr ⟨(fun j k h => wf_s h), List.forall_mem_cons.mpr ⟨wfe_of rfl, List.forall_mem_cons.mpr ⟨wfe_of rfl, List.forall_mem_cons.mpr ⟨wfe_of rfl, List.forall_mem_cons.mpr ⟨wfe_of rfl, List.forall_mem_cons.mpr ⟨wfe_of rfl, List.forall_mem_cons.mpr ⟨wfe_of rfl, List.forall_mem_cons.mpr ⟨wfe_of rfl, List.forall_mem_cons.mpr ⟨wfe_of rfl, List.forall_mem_cons.mpr ⟨wfe_of rfl, List.forall_mem_cons.mpr ⟨wfe_of rfl, List.forall_mem_cons.mpr ⟨wfe_of rfl, List.forall_mem_cons.mpr ⟨wfe_of rfl, List.forall_mem_cons.mpr ⟨wfe_of rfl, List.forall_mem_cons.mpr ⟨wfe_of rfl, List.forall_mem_cons.mpr ⟨wfe_of rfl, List.forall_mem_cons.mpr ⟨wfe_of rfl, List.forall_mem_cons.mpr ⟨wfe_of rfl, List.forall_mem_cons.mpr ⟨wfe_of rfl, List.forall_mem_cons.mpr ⟨wfe_of rfl, List.forall_mem_cons.mpr ⟨wfe_of rfl, List.forall_mem_cons.mpr ⟨wfe_of rfl, List.forall_mem_cons.mpr ⟨wfe_of rfl, List.forall_mem_cons.mpr ⟨wfe_of rfl, List.forall_mem_cons.mpr ⟨wfe_of rfl, List.forall_mem_cons.mpr ⟨wfe_of rfl, List.forall_mem_cons.mpr ⟨wfe_of rfl, List.forall_mem_cons.mpr ⟨wfe_of rfl, List.forall_mem_cons.mpr ⟨wfe_of rfl, List.forall_mem_cons.mpr ⟨wfe_of rfl, List.forall_mem_cons.mpr ⟨wfe_of rfl, List.forall_mem_cons.mpr ⟨wfe_of rfl, List.forall_mem_cons.mpr ⟨wfe_of rfl, List.forall_mem_cons.mpr ⟨wfe_of rfl, List.forall_mem_cons.mpr ⟨wfe_of rfl, List.forall_mem_cons.mpr ⟨wfe_of rfl, List.forall_mem_cons.mpr ⟨wfe_of rfl, List.forall_mem_cons.mpr ⟨wfe_of rfl, List.forall_mem_cons.mpr ⟨wfe_of rfl, List.forall_mem_cons.mpr ⟨wfe_of rfl, hW⟩⟩⟩⟩⟩⟩⟩⟩⟩⟩⟩⟩⟩⟩⟩⟩⟩⟩⟩⟩⟩⟩⟩⟩⟩⟩⟩⟩⟩⟩⟩⟩⟩⟩⟩⟩⟩⟩⟩⟩⟩⟩⟩⟩⟩⟩
theorem Wt_up {tc : Nat} : va_up (Wt tc) tc (some (46 + 3 * tc)) = Wt (tc + 1) := by
  funext j
  unfold va_up Wt
  by_cases h : j = tc
  · subst h; rw [if_pos rfl, if_pos (by omega)]
  · by_cases h2 : j < tc
    · rw [if_neg h, if_pos h2, if_pos (by omega)]
    · rw [if_neg h, if_neg h2, if_neg (by omega)]
theorem rd_put (h : PH) (n n1 n2 : Nat) (hn : h.length = n) (h1 : n + 1 = n1) (h2 : n + 2 = n2) {po : Int32} {z : Nat} {s p c e f : Nat → Int32} : putL h [7, 8, 9, 10, 11] (List.map (trE (rnI (newI [7, 8, 9, 10, 11] h.length 3)) (fun k => k)) [pO 3 [.ref 1, .ref 2, .ref 3, .ref 4, .int po, .int (nI z)], pI 161 s, pI 161 p, pI 160 c, pI 3 e, pO 5 [.ref 6, .ref 7], pI z f, pI 3 e]) = setL h [7, 8, 9, 10, 11] [pO 3 [.ref 8, .ref 9, .ref 10, .ref 11, .int po, .int (nI z)], pI 161 s, pI 161 p, pI 160 c, pI 3 e] ++ [pO 5 [.ref n1, .ref n2], pI z f, pI 3 e] := by
  subst hn; subst h1; subst h2; rfl
theorem P0.qs {d mc ms : Nat} {M : MI} {Q : Option Value → PH → Prop} {pc x i : Nat} {ls : List (Option Value)} {st : List Value} {h h' : PH} {fs : List Value} {F : Nat → Option Nat} (hG : Good M) (hl : lk M.2.2.2.2 pc = some oQast) (h1 : lg h x = some (pO 5 fs)) (h4 : lg h 4 = some (pQ 3 6 F)) (hi : i < 6) (h3 : h.set 4 (pQ 3 6 (va_up F i (some x))) = h') (hk : P0 d mc ms M (pc + 1, ls, st, h') Q) : P0 d mc ms M (pc, ls, .ref x :: .int (nI i) :: .ref 4 :: st, h) Q :=
  P0.run (dc := 0) (ds := 0) (ob := [vp_in (nI i) 6]) hG hl (by
    show (match lg h 4 with
      | some (.inl (k, n, .inr (.inr (.inr (.inr f))))) => (match lg h x with
        | some (.inr (c, _)) => bif Nat.ble 2 k && (Nat.blt k 5 && Nat.beq c (k + 2)) then some ([vp_in (nI i) n], 0, 0, (pc + 1, ls, st, h.set 4 (.inl (k, n, .inr (.inr (.inr (.inr (va_up f (nI i).toNatClampNeg (some x))))))))) else none
        | _ => none)
      | _ => none) = _
    rw [h4, h1, nI_clamp (show i < 2 ^ 31 by omega), ← h3]
    rfl) ⟨nI_vp hi (by decide), trivial⟩ hk
set_option maxHeartbeats 1000000 in
theorem k_text_full {g z : Nat → Int32} {a q u v b c y : Nat → Nat → Int32} {t tc : Nat} {TX : PH} (hO : TX.length ≤ 18) (h6 : g 2 = 6) : P0 64 0 0 mX10_text (0, ent 2 [.ref 0], [], hX g a q u v z b c y t tc TX) (fun r h' => r = some (.int (-4)) ∧ h' = hX g a q u v z b c y t tc TX) := by
  refine P0.b GX10_text 3 (ob := []) (cf' := (if g 2 < 0 then 19 else 7, [some (.ref 0), none], [], hX g a q u v z b c y t tc TX)) rfl trivial ?_
  rw [show g 2 = 6 from h6]
  rw [if_neg (show ¬ ((6 : Int32) < 0) from by decide)]
  refine P0.b GX10_text 6 (ob := []) (cf' := (if g 2 < 6 then 22 else 19, [some (.ref 0), none], [], hX g a q u v z b c y t tc TX)) rfl trivial ?_
  rw [show g 2 = 6 from h6]
  rw [if_neg (show ¬ ((6 : Int32) < 6) from by decide)]
  refine P0.b GX10_text 1 (ob := []) (cf' := (21, [some (.ref 0), none], [.int (-4)], hX g a q u v z b c y t tc TX)) rfl trivial ?_
  exact P0.ri (by decide +kernel) rfl rfl ⟨rfl, rfl⟩
set_option maxHeartbeats 1000000 in
theorem k_text_bad {g z : Nat → Int32} {a q u v b c y : Nat → Nat → Int32} {t tc : Nat} {TX : PH} (hO : TX.length ≤ 18) (htc : g 2 = nI tc) (htc6 : tc < 6) {n : Nat} {B : Nat → Int32} (hn : g 3 = nI n) (hR : RdOK (a 5) n B) (hb : ∀ j, j < n → 0 ≤ B j) {qq : Nat} (hRT : rText (sg B) (nx B) cA (skp B 0) = .inl qq) : P0 64 0 0 mX10_text (0, ent 2 [.ref 0], [], hX g a q u v z b c y t tc TX) (fun r h' => ∃ z' b', r = some (.int (-100 - nI qq)) ∧ h' = hX (upd g 3 0) a q u v z' b' c y t tc TX) := by
  refine P0.b GX10_text 3 (ob := []) (cf' := (if g 2 < 0 then 19 else 7, [some (.ref 0), none], [], hX g a q u v z b c y t tc TX)) rfl trivial ?_
  rw [show g 2 = nI tc from htc]
  rw [if_neg (show ¬ (nI tc < 0) from nI_pos (by omega))]
  refine P0.b GX10_text 6 (ob := []) (cf' := (if g 2 < 6 then 22 else 19, [some (.ref 0), none], [], hX g a q u v z b c y t tc TX)) rfl trivial ?_
  rw [show g 2 = nI tc from htc]
  rw [if_pos (show nI tc < 6 from nI_lt (b := 6) (by omega) (by decide))]
  refine P0.b GX10_text 6 (ob := []) (cf' := (34, [some (.ref 0), none], [.int (g 3), .ref 5, .ref 7], hX g a q u v z b c y t tc TX)) rfl trivial ?_
  rw [show g 3 = nI n from hn]
  refine P0.crp (α := FV) (io := [7, 8, 9, 10, 11, 5]) (as := [.ref 0, .ref 5, .int (nI n)]) (rest := []) (hc := [pO 3 [.ref 1, .ref 2, .ref 3, .ref 4, .int (z 0), .int (z 1)], pI 161 (b 8), pI 161 (b 9), pI 160 (b 10), pI 3 (b 11), pI 160 (a 5)]) (hc1 := fun e109 => [pO 3 [.ref 1, .ref 2, .ref 3, .ref 4, .int e109.2.2.2.2.1, .int e109.2.2.2.2.2], pI 161 e109.1, pI 161 e109.2.1, pI 160 e109.2.2.1, pI 3 e109.2.2.2.1, pI 160 (a 5)]) (r1 := some (.int (nI qq))) (st' := [.int (nI qq)]) (h' := fun e109 => hX g a q u v (upd (upd z 0 e109.2.2.2.2.1) 1 e109.2.2.2.2.2) (up2 (up2 (up2 (up2 b 8 e109.1) 9 e109.2.1) 10 e109.2.2.1) 11 e109.2.2.2.1) c y t tc TX) (d0 := 63) GX4_faultOf kX10_text_34 rfl ⟨_, _, rfl, rfl, .inl ⟨_, _, _, _, rfl, rfl⟩⟩ (Nat.le_of_ble_eq_true rfl) (Nat.le_of_ble_eq_true rfl) rfl ⟨rfl, rfl, rfl, rfl, rfl, rfl, trivial⟩ (fault_bad hR hb hRT) (Nat.le_of_ble_eq_true rfl) rfl (Nat.le_of_ble_eq_true rfl) (hXl hO) (fun _ => rfl) (fun e109 => ((putL_f rfl).trans rfl)) (fun e109 he109 => ?_)
  show P0 _ _ _ _ (37, [some (.ref 0), none], [.int (nI qq)], hX g a q u v (upd (upd z 0 e109.2.2.2.2.1) 1 e109.2.2.2.2.2) (up2 (up2 (up2 (up2 b 8 e109.1) 9 e109.2.1) 10 e109.2.2.1) 11 e109.2.2.2.1) c y t tc TX) _
  refine P0.b GX10_text 4 (ob := []) (cf' := (43, [some (.ref 0), some (.int (nI qq))], [], hX (upd g 3 0) a q u v (upd (upd z 0 e109.2.2.2.2.1) 1 e109.2.2.2.2.2) (up2 (up2 (up2 (up2 b 8 e109.1) 9 e109.2.1) 10 e109.2.2.1) 11 e109.2.2.2.1) c y t tc TX)) rfl trivial ?_
  refine P0.b GX10_text 3 (ob := []) (cf' := (if nI qq = -1 then 53 else 48, [some (.ref 0), some (.int (nI qq))], [], hX (upd g 3 0) a q u v (upd (upd z 0 e109.2.2.2.2.1) 1 e109.2.2.2.2.2) (up2 (up2 (up2 (up2 b 8 e109.1) 9 e109.2.1) 10 e109.2.2.1) 11 e109.2.2.2.1) c y t tc TX)) rfl trivial ?_
  rw [if_neg (show ¬ (nI qq = -1) from nI_nm1 (Nat.le_trans he109 hR.1))]
  refine P0.b GX10_text 3 (ob := []) (cf' := (52, [some (.ref 0), some (.int (nI qq))], [.int ((-100) - (nI qq))], hX (upd g 3 0) a q u v (upd (upd z 0 e109.2.2.2.2.1) 1 e109.2.2.2.2.2) (up2 (up2 (up2 (up2 b 8 e109.1) 9 e109.2.1) 10 e109.2.2.1) 11 e109.2.2.2.1) c y t tc TX)) rfl trivial ?_
  exact P0.ri (by decide +kernel) rfl rfl ⟨_, _, rfl, rfl⟩
set_option maxHeartbeats 1000000 in
theorem k_text_ok {g z : Nat → Int32} {a q u v b c y : Nat → Nat → Int32} {t tc : Nat} {TX : PH} {Vs : Nat → (Nat → Int32) → Int32 → Int32} (hl : TX.length = 3 * tc) (ht : t < tc) (hTX : ∀ i, i < tc → ∃ cd en L, TxI TX i cd en L ∧ TXok cd en L (Vs i)) (hO : TX.length ≤ 18) (htc : g 2 = nI tc) (htc6 : tc < 6) {n : Nat} {B : Nat → Int32} (hn : g 3 = nI n) (hR : RdOK (a 5) n B) (hb : ∀ j, j < n → 0 ≤ B j) {x w1 w : List Int32} (hRT : rText (sg B) (nx B) cA (skp B 0) = .inr (x, w1, w)) : P0 64 3 165 mX10_text (0, ent 2 [.ref 0], [], hX g a q u v z b c y t tc TX) (fun r h' => ∃ z' b' f' e', TXok f' e' (x.length + w1.length + w.length) (txV B) ∧ r = some (.int (nI tc)) ∧ h' = hX (upd (upd g 3 0) 2 (nI (tc + 1))) a q u v z' b' c y t (tc + 1) (TX ++ nwT tc (x.length + w1.length + w.length) f' e')) := by
  refine P0.b GX10_text 3 (ob := []) (cf' := (if g 2 < 0 then 19 else 7, [some (.ref 0), none], [], hX g a q u v z b c y t tc TX)) rfl trivial ?_
  rw [show g 2 = nI tc from htc]
  rw [if_neg (show ¬ (nI tc < 0) from nI_pos (by omega))]
  refine P0.b GX10_text 6 (ob := []) (cf' := (if g 2 < 6 then 22 else 19, [some (.ref 0), none], [], hX g a q u v z b c y t tc TX)) rfl trivial ?_
  rw [show g 2 = nI tc from htc]
  rw [if_pos (show nI tc < 6 from nI_lt (b := 6) (by omega) (by decide))]
  refine P0.b GX10_text 6 (ob := []) (cf' := (34, [some (.ref 0), none], [.int (g 3), .ref 5, .ref 7], hX g a q u v z b c y t tc TX)) rfl trivial ?_
  rw [show g 3 = nI n from hn]
  refine P0.crp (α := FV) (io := [7, 8, 9, 10, 11, 5]) (as := [.ref 0, .ref 5, .int (nI n)]) (rest := []) (hc := [pO 3 [.ref 1, .ref 2, .ref 3, .ref 4, .int (z 0), .int (z 1)], pI 161 (b 8), pI 161 (b 9), pI 160 (b 10), pI 3 (b 11), pI 160 (a 5)]) (hc1 := fun e110 => [pO 3 [.ref 1, .ref 2, .ref 3, .ref 4, .int e110.2.2.2.2.1, .int (nI (x.length + w1.length + w.length))], pI 161 e110.1, pI 161 e110.2.1, pI 160 e110.2.2.1, pI 3 e110.2.2.2.1, pI 160 (a 5)]) (r1 := some (.int (-1))) (st' := [.int (-1)]) (h' := fun e110 => hX g a q u v (upd (upd z 0 e110.2.2.2.2.1) 1 (nI (x.length + w1.length + w.length))) (up2 (up2 (up2 (up2 b 8 e110.1) 9 e110.2.1) 10 e110.2.2.1) 11 e110.2.2.2.1) c y t tc TX) (d0 := 63) GX4_faultOf kX10_text_34 rfl ⟨_, _, rfl, rfl, .inl ⟨_, _, _, _, rfl, rfl⟩⟩ (Nat.le_of_ble_eq_true rfl) (Nat.le_of_ble_eq_true rfl) rfl ⟨rfl, rfl, rfl, rfl, rfl, rfl, trivial⟩ (fault_ok hR hb hRT) (Nat.le_of_ble_eq_true rfl) rfl (Nat.le_of_ble_eq_true rfl) (hXl hO) (fun _ => rfl) (fun e110 => ((putL_f rfl).trans rfl)) (fun e110 he110 => ?_)
  show P0 _ _ _ _ (37, [some (.ref 0), none], [.int (-1)], hX g a q u v (upd (upd z 0 e110.2.2.2.2.1) 1 (nI (x.length + w1.length + w.length))) (up2 (up2 (up2 (up2 b 8 e110.1) 9 e110.2.1) 10 e110.2.2.1) 11 e110.2.2.2.1) c y t tc TX) _
  refine P0.b GX10_text 4 (ob := []) (cf' := (43, [some (.ref 0), some (.int (-1))], [], hX (upd g 3 0) a q u v (upd (upd z 0 e110.2.2.2.2.1) 1 (nI (x.length + w1.length + w.length))) (up2 (up2 (up2 (up2 b 8 e110.1) 9 e110.2.1) 10 e110.2.2.1) 11 e110.2.2.2.1) c y t tc TX)) rfl trivial ?_
  refine P0.b GX10_text 3 (ob := []) (cf' := (if (-1 : Int32) = -1 then 53 else 48, [some (.ref 0), some (.int (-1))], [], hX (upd g 3 0) a q u v (upd (upd z 0 e110.2.2.2.2.1) 1 (nI (x.length + w1.length + w.length))) (up2 (up2 (up2 (up2 b 8 e110.1) 9 e110.2.1) 10 e110.2.2.1) 11 e110.2.2.2.1) c y t tc TX)) rfl trivial ?_
  rw [if_pos (show ((-1 : Int32) = -1) from by decide)]
  refine P0.b GX10_text 6 (ob := []) (cf' := (65, [some (.ref 0), some (.int (-1))], [.ref 7, .int (g 2), .ref 4], hX (upd g 3 0) a q u v (upd (upd z 0 e110.2.2.2.2.1) 1 (nI (x.length + w1.length + w.length))) (up2 (up2 (up2 (up2 b 8 e110.1) 9 e110.2.1) 10 e110.2.2.1) 11 e110.2.2.2.1) c y t tc TX)) rfl trivial ?_
  rw [show g 2 = nI tc from htc]
  have hz160 : x.length + w1.length + w.length ≤ 160 := he110.2.2.2.2
  refine P0.call (d := 63) (mc1 := 3) (ms1 := 165) (mc2 := 0) (ms2 := 0) (io := [7, 8, 9, 10, 11]) (as := [.ref 0]) (rest := [.int (nI tc), .ref 4]) (hc := [pO 3 [.ref 1, .ref 2, .ref 3, .ref 4, .int e110.2.2.2.2.1, .int (nI (x.length + w1.length + w.length))], pI 161 e110.1, pI 161 e110.2.1, pI 160 e110.2.2.1, pI 3 e110.2.2.2.1]) GX4_textRead kX10_text_65 rfl ⟨_, _, rfl, rfl, .inl ⟨_, _, _, _, rfl, rfl⟩⟩ (Nat.le_of_ble_eq_true rfl) (Nat.le_of_ble_eq_true rfl) rfl (Nat.le_of_ble_eq_true rfl) rfl (cellsOk.get (h := hX (upd g 3 0) a q u v (upd (upd z 0 e110.2.2.2.2.1) 1 (nI (x.length + w1.length + w.length))) (up2 (up2 (up2 (up2 b 8 e110.1) 9 e110.2.1) 10 e110.2.2.1) 11 e110.2.2.2.1) c y t tc TX) (f := rnI [7, 8, 9, 10, 11]) (is := [7, 8, 9, 10, 11]) (cs := [pO 3 [.ref 1, .ref 2, .ref 3, .ref 4, .int e110.2.2.2.2.1, .int (nI (x.length + w1.length + w.length))], pI 161 e110.1, pI 161 e110.2.1, pI 160 e110.2.2.1, pI 3 e110.2.2.2.1]) ⟨rfl, rfl, rfl, rfl, rfl, trivial⟩).2 (P0.mono (textRead_n hz160) (Nat.le_of_ble_eq_true rfl) (Nat.le_refl _) (Nat.le_refl _) (fun _ _ q => q)) (fun r hc' q => ?_) (fun r hc' q _ => ?_)
  · obtain ⟨f', _, _, rfl⟩ := q
    refine ⟨by rw [hX_len]; show TX.length + 46 + 3 ≤ 999999; omega, Nat.le_of_ble_eq_true rfl, .inr ⟨by rw [hX_len]; show TX.length + 46 < 1000000; omega, ?_, ?_, hX_wf hl ht (TX_wf hl (fun i hi => by obtain ⟨cd, en, L, h1, _⟩ := hTX i hi; exact ⟨cd, en, L, h1⟩))⟩⟩
    · intro o ho v hv; subst hv; exact wfv_of (List.all_eq_true.mp (show List.all [some (.ref 0), some (.int (-1))] (wfoB (TX.length + 46)) = true from rfl) _ ho)
    · intro v hv; exact wfv_of (List.all_eq_true.mp (show List.all [.int (nI tc), .ref 4] (wfvB (TX.length + 46)) = true from rfl) _ hv)
  · obtain ⟨f', hf, rfl, rfl⟩ := q
    have hput := rd_put (hX (upd g 3 0) a q u v (upd (upd z 0 e110.2.2.2.2.1) 1 (nI (x.length + w1.length + w.length))) (up2 (up2 (up2 (up2 b 8 e110.1) 9 e110.2.1) 10 e110.2.2.1) 11 e110.2.2.2.1) c y t tc TX) (46 + 3 * tc) (47 + 3 * tc) (48 + 3 * tc) (by rw [hX_len]; omega) (by omega) (by omega) (po := e110.2.2.2.2.1) (z := x.length + w1.length + w.length) (s := e110.1) (p := e110.2.1) (c := e110.2.2.1) (e := e110.2.2.2.1) (f := f')
    have href : (.ref (TX.length + 46) : Value) = .ref (46 + 3 * tc) := congrArg Value.ref (show (TX.length + 46 : Nat) = 46 + 3 * tc by omega)
    show P0 64 0 0 mX10_text (68, [some (.ref 0), some (.int (-1))], .ref (TX.length + 46) :: [.int (nI tc), .ref 4], putL (hX (upd g 3 0) a q u v (upd (upd z 0 e110.2.2.2.2.1) 1 (nI (x.length + w1.length + w.length))) (up2 (up2 (up2 (up2 b 8 e110.1) 9 e110.2.1) 10 e110.2.2.1) 11 e110.2.2.2.1) c y t tc TX) [7, 8, 9, 10, 11] (List.map (trE (rnI (newI [7, 8, 9, 10, 11] (hX (upd g 3 0) a q u v (upd (upd z 0 e110.2.2.2.2.1) 1 (nI (x.length + w1.length + w.length))) (up2 (up2 (up2 (up2 b 8 e110.1) 9 e110.2.1) 10 e110.2.2.1) 11 e110.2.2.2.1) c y t tc TX).length 3)) (fun k => k)) _)) _
    rw [hput, href]
    show P0 64 0 0 mX10_text (68, [some (.ref 0), some (.int (-1))], [.ref (46 + 3 * tc), .int (nI tc), .ref 4], hX (upd g 3 0) a q u v (upd (upd z 0 e110.2.2.2.2.1) 1 (nI (x.length + w1.length + w.length))) (up2 (up2 (up2 (up2 b 8 e110.1) 9 e110.2.1) 10 e110.2.2.1) 11 e110.2.2.2.1) c y t tc (TX ++ nwT tc (x.length + w1.length + w.length) f' e110.2.2.2.1)) _
    refine P0.qs GX10_text rfl (hX_t0 (TxI.new hl)) rfl (by omega) (by rw [Wt_up]) ?_
    show P0 64 0 0 mX10_text (69, [some (.ref 0), some (.int (-1))], [], hX (upd g 3 0) a q u v (upd (upd z 0 e110.2.2.2.2.1) 1 (nI (x.length + w1.length + w.length))) (up2 (up2 (up2 (up2 b 8 e110.1) 9 e110.2.1) 10 e110.2.2.1) 11 e110.2.2.2.1) c y t (tc + 1) (TX ++ nwT tc (x.length + w1.length + w.length) f' e110.2.2.2.1)) _
    refine P0.b GX10_text 6 (ob := []) (cf' := (79, [some (.ref 0), some (.int (-1))], [], hX (upd (upd g 3 0) 2 ((g 2) + 1)) a q u v (upd (upd z 0 e110.2.2.2.2.1) 1 (nI (x.length + w1.length + w.length))) (up2 (up2 (up2 (up2 b 8 e110.1) 9 e110.2.1) 10 e110.2.2.1) 11 e110.2.2.2.1) c y t (tc + 1) (TX ++ nwT tc (x.length + w1.length + w.length) f' e110.2.2.2.1))) rfl trivial ?_
    rw [show g 2 = nI tc from htc]
    rw [show (nI tc) + 1 = nI (tc + 1) from nI_add _ _]
    refine P0.b GX10_text 4 (ob := []) (cf' := (85, [some (.ref 0), some (.int (-1))], [.int ((nI (tc + 1)) - 1)], hX (upd (upd g 3 0) 2 (nI (tc + 1))) a q u v (upd (upd z 0 e110.2.2.2.2.1) 1 (nI (x.length + w1.length + w.length))) (up2 (up2 (up2 (up2 b 8 e110.1) 9 e110.2.1) 10 e110.2.2.1) 11 e110.2.2.2.1) c y t (tc + 1) (TX ++ nwT tc (x.length + w1.length + w.length) f' e110.2.2.2.1))) rfl trivial ?_
    rw [show (nI (tc + 1)) - 1 = nI tc from nI_pred tc]
    exact P0.ri (by decide +kernel) rfl rfl ⟨upd (upd z 0 e110.2.2.2.2.1) 1 (nI (x.length + w1.length + w.length)), up2 (up2 (up2 (up2 b 8 e110.1) 9 e110.2.1) 10 e110.2.2.1) 11 e110.2.2.2.1, f', e110.2.2.2.1, TX_of hRT he110 (Nat.le_refl _) hz160 hf (fun _ _ => rfl), rfl, rfl⟩
