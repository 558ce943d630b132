/-! ===== laid by program (wip/tools) ===== -/
theorem row4 {x : Nat} (h : x < 6) : vp_in (nI x) 6 := nI_vp h (by decide)
theorem row4' {x : Nat} (h : x < 6) (h0 : ¬ nI x = 0) : vp_in (nI x - 1) 6 := by
  have : 0 < x := by
    by_cases e : x = 0
    · subst e; exact absurd nI_0 h0
    · omega
  obtain ⟨j, rfl⟩ : ∃ j, x = j + 1 := ⟨x - 1, by omega⟩
  rw [nI_pred]
  exact nI_vp (by omega) (by decide)
def badB (a : Nat → Nat → Int32) (t : Nat) (age : Int32) (x s : Nat) : Bool := decide (0 ≤ nowV a t age (nI x) (nI s) ∧ nowV a t age (nI x) (nI s) ≤ 3) && decide (¬ nowV a t age (nI x) (nI s) = a 4 (nI s).toNatClampNeg)
def wroV (a : Nat → Nat → Int32) (t : Nat) (age : Int32) (m : Nat) : Int32 := match fst (fun x => (fst (badB a t age x) 6).isSome) m with
  | some x => nI x
  | none => -1
theorem bad_a {a : Nat → Nat → Int32} {t : Nat} {age : Int32} {x s : Nat} (h : ¬ (0 ≤ nowV a t age (nI x) (nI s) ∧ nowV a t age (nI x) (nI s) ≤ 3)) : ¬ badB a t age x s = true := by simp only [badB, h, decide_false, Bool.false_and]; exact Bool.false_ne_true
theorem bad_b {a : Nat → Nat → Int32} {t : Nat} {age : Int32} {x s : Nat} (h : nowV a t age (nI x) (nI s) = a 4 (nI s).toNatClampNeg) : ¬ badB a t age x s = true := by simp [badB, h]
theorem bad_c {a : Nat → Nat → Int32} {t : Nat} {age : Int32} {x s : Nat} (h : 0 ≤ nowV a t age (nI x) (nI s) ∧ nowV a t age (nI x) (nI s) ≤ 3) (h2 : ¬ nowV a t age (nI x) (nI s) = a 4 (nI s).toNatClampNeg) : badB a t age x s = true := by simp [badB, h, h2]
theorem wro_none {a : Nat → Nat → Int32} {t : Nat} {age : Int32} {m : Nat} (h : ∀ j, j < m → ¬ (fst (badB a t age j) 6).isSome = true) : wroV a t age m = -1 := by unfold wroV; rw [fst_none h]
theorem wro_some {a : Nat → Nat → Int32} {t : Nat} {age : Int32} {m x s : Nat} (hx : x < m) (h : ∀ j, j < x → ¬ (fst (badB a t age j) 6).isSome = true) (hs : s < 6) (h2 : ∀ j, j < s → ¬ badB a t age x j = true) (hb : badB a t age x s = true) : wroV a t age m = nI x := by
  unfold wroV
  rw [fst_some hx h (by rw [fst_some hs h2 hb]; rfl)]
theorem fst_isNone {P : Nat → Bool} {N : Nat} (h : ∀ j, j < N → ¬ P j = true) : ¬ (fst P N).isSome = true := by rw [fst_none h]; exact Bool.false_ne_true
def othB (a : Nat → Nat → Int32) (t : Nat) (age : Int32) (sh x s : Nat) : Bool := decide (¬ nowV a t age (nI x) (nI s) = a 17 (40 * nI sh + nI s).toNatClampNeg)
def firV (a : Nat → Nat → Int32) (t : Nat) (age : Int32) (sh x : Nat) : Int32 := match fst (othB a t age sh x) 6 with
  | some s => nI s
  | none => -1
theorem oth_a {a : Nat → Nat → Int32} {t : Nat} {age : Int32} {sh x s : Nat} (h : nowV a t age (nI x) (nI s) = a 17 (40 * nI sh + nI s).toNatClampNeg) : ¬ othB a t age sh x s = true := by simp [othB, h]
theorem oth_b {a : Nat → Nat → Int32} {t : Nat} {age : Int32} {sh x s : Nat} (h : ¬ nowV a t age (nI x) (nI s) = a 17 (40 * nI sh + nI s).toNatClampNeg) : othB a t age sh x s = true := by simp [othB, h]
theorem fir_none {a : Nat → Nat → Int32} {t : Nat} {age : Int32} {sh x : Nat} (h : ∀ j, j < 6 → ¬ othB a t age sh x j = true) : firV a t age sh x = -1 := by unfold firV; rw [fst_none h]
theorem fir_some {a : Nat → Nat → Int32} {t : Nat} {age : Int32} {sh x s : Nat} (hs : s < 6) (h : ∀ j, j < s → ¬ othB a t age sh x j = true) (hb : othB a t age sh x s = true) : firV a t age sh x = nI s := by unfold firV; rw [fst_some hs h hb]
theorem it_in {sh s : Nat} (h : sh < 4) (hs : s < 40) : vp_in (40 * nI sh + nI s) 160 := by
  rw [show (40 : Int32) * nI sh = nI (40 * sh) from (Int32.ofNat_mul 40 sh).symm, nI_add]
  exact nI_vp (by omega) (by decide)
set_option maxHeartbeats 1000000 in
theorem e_X11_wrong {g z : Nat → Int32} {w : Int64} {a b : Nat → Nat → Int32} {t m : Nat} (hr : g 4 = nI t) (hS : Std1 a t) (hm : g 11 = nI m) (hm6 : m ≤ 6) (hW : ∀ i, i < m → WOK a (nI i)) : P0 45 0 0 mX11_wrong (0, ent 4 [.ref 0], [], hC g z w a b) (fun r h' => ∃ z' w', r = some (.int (wroV a t (g 7) m)) ∧ h' = hC g z' w' a b) := by
  refine P0.b GX11_wrong 2 (ob := []) (cf' := (2, [some (.ref 0), some (.int 0), none, none], [], hC g z w a b)) rfl trivial ?_
  refine P0.loopEZ (N := m) (fun x => (fst (badB a t (g 7) x) 6).isSome = true) (fun _ u => u) () (fun x62 v62 z62 w62 => (2, [some (.ref 0), some (.int x62), none, none], [], hC g z62 w62 a b)) (fun i62 hi62 hp62 z62 w62 hk62 => ?_) (fun hp62 z62 w62 => ?_) 0 () z w nI_0.symm rfl
  · show P0 _ _ _ _ (2, [some (.ref 0), some (.int (nI i62)), none, none], [], hC g z62 w62 a b) _
    refine P0.b GX11_wrong 4 (ob := []) (cf' := (if g 11 ≤ nI i62 then 61 else 10, [some (.ref 0), some (.int (nI i62)), none, none], [], hC g z62 w62 a b)) rfl trivial ?_
    rw [if_neg (show ¬ (g 11 ≤ nI i62) from by rw [hm]; exact nI_ge hi62 (by omega))]
    refine P0.b GX11_wrong 2 (ob := []) (cf' := (12, [some (.ref 0), some (.int (nI i62)), some (.int 0), none], [], hC g z62 w62 a b)) rfl trivial ?_
    refine P0.loopEZ (N := 6) (fun s => badB a t (g 7) i62 s = true) (fun _ u => u) () (fun x63 v63 z63 w63 => (12, [some (.ref 0), some (.int (nI i62)), some (.int x63), none], [], hC g z63 w63 a b)) (fun i63 hi63 hp63 z63 w63 hk63 => ?_) (fun hp63 z63 w63 => ?_) 0 () z62 w62 nI_0.symm rfl
    · show P0 _ _ _ _ (12, [some (.ref 0), some (.int (nI i62)), some (.int (nI i63)), none], [], hC g z63 w63 a b) _
      refine P0.b GX11_wrong 3 (ob := []) (cf' := (if 6 ≤ nI i63 then 55 else 18, [some (.ref 0), some (.int (nI i62)), some (.int (nI i63)), none], [], hC g z63 w63 a b)) rfl trivial ?_
      rw [if_neg (show ¬ (6 ≤ nI i63) from nI_ge hi63 (by decide))]
      refine P0.b GX11_wrong 3 (ob := []) (cf' := (21, [some (.ref 0), some (.int (nI i62)), some (.int (nI i63)), none], [.int (nI i63), .int (nI i62), .ref 0], hC g z63 w63 a b)) rfl trivial ?_
      refine P0.cs (as := [.ref 0, .int (nI i62), .int (nI i63)]) (rest := []) GX11_saysNow kX11_wrong_21 rfl ⟨_, _, rfl, rfl, .inl ⟨_, _, _, _, rfl, rfl⟩⟩ (Nat.le_of_ble_eq_true rfl) (Nat.le_of_ble_eq_true rfl) (P0.mono (e_X11_saysNow hr hS (hW _ hi62) (row4 hi63) (row4' hi63)) (Nat.le_of_ble_eq_true rfl) (Nat.zero_le _) (Nat.zero_le _) (fun _ _ q => q)) (Nat.le_of_ble_eq_true rfl) (fun _ _ ⟨_, _, _, q⟩ => q ▸ rfl) ?_
      rintro _ _ ⟨z64, w64, rfl, rfl⟩
      show P0 _ _ _ _ (24, [some (.ref 0), some (.int (nI i62)), some (.int (nI i63)), none], [.int (nowV a t (g 7) (nI i62) (nI i63))], hC g z64 w64 a b) _
      refine P0.b GX11_wrong 5 (ob := []) (cf' := (31, [some (.ref 0), some (.int (nI i62)), some (.int (nI i63)), some (.int (nowV a t (g 7) (nI i62) (nI i63)))], [.long 3, .long 0, .long ((nowV a t (g 7) (nI i62) (nI i63)).toInt64)], hC g z64 w64 a b)) rfl trivial ?_
      refine P0.cr (io := []) (as := [.long ((nowV a t (g 7) (nI i62) (nI i63)).toInt64), .long ((0 : Int32).toInt64), .long ((3 : Int32).toInt64)]) (rest := []) (hc := []) (hc1 := []) (r1 := some (.int (if 0 ≤ nowV a t (g 7) (nI i62) (nI i63) ∧ nowV a t (g 7) (nI i62) (nI i63) ≤ 3 then 1 else 0))) (st' := [.int (if 0 ≤ nowV a t (g 7) (nI i62) (nI i63) ∧ nowV a t (g 7) (nI i62) (nI i63) ≤ 3 then 1 else 0)]) (h' := hC g z64 w64 a b) (d0 := 0) GX11_in kX11_wrong_31 rfl rfl (Nat.le_of_ble_eq_true rfl) (Nat.le_of_ble_eq_true rfl) rfl trivial (e_in32 (nowV a t (g 7) (nI i62) (nI i63)) 0 3) (Nat.le_of_ble_eq_true rfl) rfl (Nat.le_of_ble_eq_true rfl) (Nat.le_of_ble_eq_true rfl) rfl rfl ?_
      refine P0.b GX11_wrong 1 (ob := []) (cf' := (if (if 0 ≤ nowV a t (g 7) (nI i62) (nI i63) ∧ nowV a t (g 7) (nI i62) (nI i63) ≤ 3 then 1 else 0) = 0 then 49 else 37, [some (.ref 0), some (.int (nI i62)), some (.int (nI i63)), some (.int (nowV a t (g 7) (nI i62) (nI i63)))], [], hC g z64 w64 a b)) rfl trivial ?_
      refine P0.ifB (fun h1 => ?_) (fun h1 => ?_)
      · refine P0.b GX11_wrong 2 (ob := []) (cf' := (12, [some (.ref 0), some (.int (nI i62)), some (.int ((nI i63) + 1)), some (.int (nowV a t (g 7) (nI i62) (nI i63)))], [], hC g z64 w64 a b)) rfl trivial ?_
        refine P0.forget (ls' := [some (.ref 0), some (.int (nI i62)), some (.int ((nI i63) + 1)), none]) ⟨.inr rfl, .inr rfl, .inr rfl, .inl rfl, trivial⟩ ?_
        exact hk63 _ () z64 w64 (bad_a h1) (nI_1 _) rfl
      · refine P0.b GX11_wrong 6 (ob := [vp_in (nI i63) 6]) (cf' := (if nowV a t (g 7) (nI i62) (nI i63) = (a 4) (nI i63).toNatClampNeg then 49 else 47, [some (.ref 0), some (.int (nI i62)), some (.int (nI i63)), some (.int (nowV a t (g 7) (nI i62) (nI i63)))], [], hC g z64 w64 a b)) rfl ⟨(nI_vp (by assumption) (by decide)), trivial⟩ ?_
        refine P0.if (fun h2 => ?_) (fun h2 => ?_)
        · refine P0.b GX11_wrong 2 (ob := []) (cf' := (12, [some (.ref 0), some (.int (nI i62)), some (.int ((nI i63) + 1)), some (.int (nowV a t (g 7) (nI i62) (nI i63)))], [], hC g z64 w64 a b)) rfl trivial ?_
          refine P0.forget (ls' := [some (.ref 0), some (.int (nI i62)), some (.int ((nI i63) + 1)), none]) ⟨.inr rfl, .inr rfl, .inr rfl, .inl rfl, trivial⟩ ?_
          exact hk63 _ () z64 w64 (bad_b h2) (nI_1 _) rfl
        · refine P0.b GX11_wrong 1 (ob := []) (cf' := (48, [some (.ref 0), some (.int (nI i62)), some (.int (nI i63)), some (.int (nowV a t (g 7) (nI i62) (nI i63)))], [.int (nI i62)], hC g z64 w64 a b)) rfl trivial ?_
          exact P0.ri (by decide +kernel) rfl rfl ⟨_, _, by rw [wro_some hi62 hp62 hi63 hp63 (bad_c h1 h2)], rfl⟩
    · show P0 _ _ _ _ (12, [some (.ref 0), some (.int (nI i62)), some (.int 6), none], [], hC g z63 w63 a b) _
      refine P0.b GX11_wrong 5 (ob := []) (cf' := (2, [some (.ref 0), some (.int ((nI i62) + 1)), some (.int 6), none], [], hC g z63 w63 a b)) rfl trivial ?_
      refine P0.forget (ls' := [some (.ref 0), some (.int ((nI i62) + 1)), none, none]) ⟨.inr rfl, .inr rfl, .inl rfl, .inl rfl, trivial⟩ ?_
      exact hk62 _ () z63 w63 (fst_isNone hp63) (nI_1 _) rfl
  · show P0 _ _ _ _ (2, [some (.ref 0), some (.int (nI m)), none, none], [], hC g z62 w62 a b) _
    refine P0.b GX11_wrong 4 (ob := []) (cf' := (if g 11 ≤ nI m then 61 else 10, [some (.ref 0), some (.int (nI m)), none, none], [], hC g z62 w62 a b)) rfl trivial ?_
    rw [if_pos (show g 11 ≤ nI m from by rw [hm]; exact Int32.le_refl _)]
    refine P0.b GX11_wrong 1 (ob := []) (cf' := (62, [some (.ref 0), some (.int (nI m)), none, none], [.int (-1)], hC g z62 w62 a b)) rfl trivial ?_
    exact P0.ri (by decide +kernel) rfl rfl ⟨_, _, by rw [wro_none hp62], rfl⟩
