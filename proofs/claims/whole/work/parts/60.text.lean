/-! ===== laid by program (wip/tools) ===== -/
/-- a call over some of the cells, that makes none, with one answer and a family of ends -/
theorem P0.crx {α : Type} {d0 d mc2 ms2 : Nat} {M M' : MI} {pc kind n : Nat} {ls : List (Option Value)} {st st' rest as : List Value} {h hc : PH} {h' hc1 : α → PH} {io : List Nat} {r1 : Option Value} {Q : Option Value → PH → Prop}
    (hG' : Good M') (hcall : CallAt M pc kind M' n) (hst : st = (as.map (trV (rnI io))).reverse ++ rest) (hargs : argsOk kind n M' hc as) (hsum : sumc rest ≤ 8) (hsa : sumc as ≤ M'.2.2.1)
    (hnd : va_nd io = true) (hcells : cellsOk (rnI io) h io hc)
    (hsub : P0 d0 0 0 M' (0, ent M'.2.2.1 as, [], hc) (fun r h' => ∃ x, r = r1 ∧ h' = hc1 x)) (hd : d0 ≤ d) (hst' : pushR (r1.map (trV (rnI io))) rest = st') (hl : hc.length ≤ 999999) (hl0 : h.length ≤ 999999) (hl1 : ∀ x, (hc1 x).length = hc.length)
    (hh : ∀ x, putL h io ((hc1 x).map (trE (rnI io) (fun k => k))) = h' x)
    (hk : ∀ x, P0 (d + 1) mc2 ms2 M (pc + 3, ls, st', h' x) Q) : P0 (d + 1) mc2 ms2 M (pc, ls, st, h) Q := by
  obtain ⟨g1, g2⟩ := hcells.get
  have := P0.call (mc1 := 0) (ms1 := 0) (mc2 := mc2) (ms2 := ms2) (d := d) (Q := Q) (ls := ls) hG' hcall hst hargs hsum hsa g1 hl hnd g2 (P0.mono hsub hd (Nat.le_refl _) (Nat.le_refl _) (fun _ _ q => q))
    (fun r hc' q => by obtain ⟨x, _, q2⟩ := q; rw [q2, hl1]; exact ⟨by omega, hl, Or.inl rfl⟩) (fun r hc' q _ => by
      obtain ⟨x, rfl, rfl⟩ := q
      have e : newI io h.length ((hc1 x).length - hc.length) = io := by rw [hl1, Nat.sub_self]; simp [newI]
      rw [e, hst', hh]
      exact hk x)
  rw [Nat.zero_add, Nat.zero_add] at this
  exact this
/-- one sign done on the stack: how many stand there then, the stack -/
def rkV (e : Nat → Int32) (c : Int32) (p : Int32 × (Nat → Int32)) : Int32 × (Nat → Int32) :=
  if -6 ≤ c then (p.1 + 1, rowPut 160 p.2 p.1 (vNm e c))
  else if c = -12 then (p.1, rowPut 160 p.2 (p.1 - 1) (vUn c (rowAt 160 p.2 (p.1 - 1))))
  else if c = -21 then (p.1, rowPut 160 p.2 (p.1 - 1) (vUn c (rowAt 160 p.2 (p.1 - 1))))
  else (p.1 - 1, rowPut 160 p.2 (p.1 - 2) (vBn c (rowAt 160 p.2 (p.1 - 2)) (rowAt 160 p.2 (p.1 - 1))))
/-- a part's code done from A on, n signs -/
def rkN (e : Nat → Int32) (cd : Nat → Int32) (A : Nat) (sk : Nat → Int32) (n : Nat) : Int32 × (Nat → Int32) := it (fun k p => rkV e (cd (A + k)) p) n (0, sk)
def nmN (d s nu la se ag sign : Int32) : Int32 := if sign = -5 then se else if sign = -4 then la else if sign = -3 then nu else if sign = -2 then s else if sign = -1 then d else ag
theorem nm_v {d s nu la se ag c : Int32} (h : -6 ≤ c) (h2 : c < 0) : nmN d s nu la se ag c = vNm (ev d s nu la se ag) c := by
  have hc : c = -1 ∨ c = -2 ∨ c = -3 ∨ c = -4 ∨ c = -5 ∨ c = -6 := by
    have e6 : (-6 : Int32).toInt = -6 := by decide
    have e0 : (0 : Int32).toInt = 0 := by decide
    rw [Int32.le_iff_toInt_le, e6] at h
    rw [Int32.lt_iff_toInt_lt, e0] at h2
    have k : ∀ (n : Int32), c.toInt = n.toInt → c = n := fun n z => Int32.toInt_inj.mp z
    have e1 : (-1 : Int32).toInt = -1 := by decide
    have e2 : (-2 : Int32).toInt = -2 := by decide
    have e3 : (-3 : Int32).toInt = -3 := by decide
    have e4 : (-4 : Int32).toInt = -4 := by decide
    have e5 : (-5 : Int32).toInt = -5 := by decide
    by_cases a1 : c.toInt = -1
    · exact Or.inl (k _ (a1.trans e1.symm))
    · by_cases a2 : c.toInt = -2
      · exact Or.inr (Or.inl (k _ (a2.trans e2.symm)))
      · by_cases a3 : c.toInt = -3
        · exact Or.inr (Or.inr (Or.inl (k _ (a3.trans e3.symm))))
        · by_cases a4 : c.toInt = -4
          · exact Or.inr (Or.inr (Or.inr (Or.inl (k _ (a4.trans e4.symm)))))
          · by_cases a5 : c.toInt = -5
            · exact Or.inr (Or.inr (Or.inr (Or.inr (Or.inl (k _ (a5.trans e5.symm))))))
            · exact Or.inr (Or.inr (Or.inr (Or.inr (Or.inr (k _ ((show c.toInt = -6 by omega).trans e6.symm))))))
  rcases hc with rfl | rfl | rfl | rfl | rfl | rfl <;> rfl
theorem nm_p {e : Nat → Int32} {c : Int32} (h : ¬ c < 0) : c = vNm e c := by
  have k : ∀ n : Int32, n < 0 → ¬ c = n := fun n hn z => h (by rw [z]; exact hn)
  unfold vNm
  rw [if_neg (k _ (by decide)), if_neg (k _ (by decide)), if_neg (k _ (by decide)), if_neg (k _ (by decide)), if_neg (k _ (by decide)), if_neg (k _ (by decide))]
set_option maxHeartbeats 1000000 in
theorem ofStep_n {d s nu la se ag : Int32} {sk : Nat → Int32} (x y z u : Int32) : P0 0 0 0 mX3_ofStep (0, ent 5 [.ref 0, .int x, .int y, .int z, .int u], [], [pO 2 [.ref 1, .int d, .int s, .int nu, .int la, .int se, .int ag], pI 160 sk]) (fun r h' => r = none ∧ h' = [pO 2 [.ref 1, .int y, .int x, .int nu, .int z, .int se, .int u], pI 160 sk]) := by
  refine P0.b GX3_ofStep 3 (ob := []) (cf' := (5, [some (.ref 0), some (.int x), some (.int y), some (.int z), some (.int u)], [], [pO 2 [.ref 1, .int d, .int x, .int nu, .int la, .int se, .int ag], pI 160 sk])) rfl trivial ?_
  refine P0.b GX3_ofStep 3 (ob := []) (cf' := (10, [some (.ref 0), some (.int x), some (.int y), some (.int z), some (.int u)], [], [pO 2 [.ref 1, .int y, .int x, .int nu, .int la, .int se, .int ag], pI 160 sk])) rfl trivial ?_
  refine P0.b GX3_ofStep 3 (ob := []) (cf' := (15, [some (.ref 0), some (.int x), some (.int y), some (.int z), some (.int u)], [], [pO 2 [.ref 1, .int y, .int x, .int nu, .int z, .int se, .int ag], pI 160 sk])) rfl trivial ?_
  refine P0.b GX3_ofStep 3 (ob := []) (cf' := (21, [some (.ref 0), some (.int x), some (.int y), some (.int z), some (.int u)], [], [pO 2 [.ref 1, .int y, .int x, .int nu, .int z, .int se, .int u], pI 160 sk])) rfl trivial ?_
  exact P0.rv (by decide +kernel) rfl ⟨rfl, rfl⟩
set_option maxHeartbeats 1000000 in
theorem ofWitness_n {d s nu la se ag : Int32} {sk : Nat → Int32} (x y : Int32) (hy : bcOK y) : P0 1 0 0 mX3_ofWitness (0, ent 3 [.ref 0, .int x, .int y], [], [pO 2 [.ref 1, .int d, .int s, .int nu, .int la, .int se, .int ag], pI 160 sk]) (fun r h' => r = none ∧ h' = [pO 2 [.ref 1, .int d, .int s, .int x, .int la, .int (kb 7 y), .int ag], pI 160 sk]) := by
  refine P0.b GX3_ofWitness 3 (ob := []) (cf' := (5, [some (.ref 0), some (.int x), some (.int y)], [], [pO 2 [.ref 1, .int d, .int s, .int x, .int la, .int se, .int ag], pI 160 sk])) rfl trivial ?_
  refine P0.b GX3_ofWitness 2 (ob := []) (cf' := (7, [some (.ref 0), some (.int x), some (.int y)], [.int y, .ref 0], [pO 2 [.ref 1, .int d, .int s, .int x, .int la, .int se, .int ag], pI 160 sk])) rfl trivial ?_
  refine P0.cr (io := []) (as := [.int y]) (rest := [.ref 0]) (hc := []) (hc1 := []) (r1 := some (.int (kb 7 y))) (st' := [.int (kb 7 y), .ref 0]) (h' := [pO 2 [.ref 1, .int d, .int s, .int x, .int la, .int se, .int ag], pI 160 sk]) (d0 := 0) GJ6_bitCount_0f7a4 kX3_ofWitness_7 rfl rfl (Nat.le_of_ble_eq_true rfl) (Nat.le_of_ble_eq_true rfl) rfl trivial (bc_n hy) (Nat.zero_le _) rfl (Nat.le_of_ble_eq_true rfl) (Nat.le_of_ble_eq_true rfl) rfl rfl ?_
  refine P0.b GX3_ofWitness 1 (ob := []) (cf' := (13, [some (.ref 0), some (.int x), some (.int y)], [], [pO 2 [.ref 1, .int d, .int s, .int x, .int la, .int (kb 7 y), .int ag], pI 160 sk])) rfl trivial ?_
  exact P0.rv (by decide +kernel) rfl ⟨rfl, rfl⟩
set_option maxHeartbeats 1000000 in
theorem named_n {d s nu la se ag : Int32} {sk : Nat → Int32} (x : Int32) : P0 0 0 0 mX3_named (0, ent 2 [.ref 0, .int x], [], [pO 2 [.ref 1, .int d, .int s, .int nu, .int la, .int se, .int ag], pI 160 sk]) (fun r h' => r = some (.int (nmN d s nu la se ag x)) ∧ h' = [pO 2 [.ref 1, .int d, .int s, .int nu, .int la, .int se, .int ag], pI 160 sk]) := by
  refine P0.b GX3_named 2 (ob := []) (cf' := (swT x 61 [((-5), 56), ((-4), 51), ((-3), 46), ((-2), 41), ((-1), 36)], [some (.ref 0), some (.int x)], [], [pO 2 [.ref 1, .int d, .int s, .int nu, .int la, .int se, .int ag], pI 160 sk])) rfl trivial ?_
  refine P0.sw (fun h1 => ?_) (fun h1 => ?_)
  · refine P0.b GX3_named 2 (ob := []) (cf' := (60, [some (.ref 0), some (.int x)], [.int se], [pO 2 [.ref 1, .int d, .int s, .int nu, .int la, .int se, .int ag], pI 160 sk])) rfl trivial ?_
    exact P0.ri (by decide +kernel) rfl rfl ⟨by unfold nmN; rw [if_pos h1], rfl⟩
  · refine P0.sw (fun h2 => ?_) (fun h2 => ?_)
    · refine P0.b GX3_named 2 (ob := []) (cf' := (55, [some (.ref 0), some (.int x)], [.int la], [pO 2 [.ref 1, .int d, .int s, .int nu, .int la, .int se, .int ag], pI 160 sk])) rfl trivial ?_
      exact P0.ri (by decide +kernel) rfl rfl ⟨by unfold nmN; rw [if_neg h1, if_pos h2], rfl⟩
    · refine P0.sw (fun h3 => ?_) (fun h3 => ?_)
      · refine P0.b GX3_named 2 (ob := []) (cf' := (50, [some (.ref 0), some (.int x)], [.int nu], [pO 2 [.ref 1, .int d, .int s, .int nu, .int la, .int se, .int ag], pI 160 sk])) rfl trivial ?_
        exact P0.ri (by decide +kernel) rfl rfl ⟨by unfold nmN; rw [if_neg h1, if_neg h2, if_pos h3], rfl⟩
      · refine P0.sw (fun h4 => ?_) (fun h4 => ?_)
        · refine P0.b GX3_named 2 (ob := []) (cf' := (45, [some (.ref 0), some (.int x)], [.int s], [pO 2 [.ref 1, .int d, .int s, .int nu, .int la, .int se, .int ag], pI 160 sk])) rfl trivial ?_
          exact P0.ri (by decide +kernel) rfl rfl ⟨by unfold nmN; rw [if_neg h1, if_neg h2, if_neg h3, if_pos h4], rfl⟩
        · refine P0.sw (fun h5 => ?_) (fun h5 => ?_)
          · refine P0.b GX3_named 2 (ob := []) (cf' := (40, [some (.ref 0), some (.int x)], [.int d], [pO 2 [.ref 1, .int d, .int s, .int nu, .int la, .int se, .int ag], pI 160 sk])) rfl trivial ?_
            exact P0.ri (by decide +kernel) rfl rfl ⟨by unfold nmN; rw [if_neg h1, if_neg h2, if_neg h3, if_neg h4, if_pos h5], rfl⟩
          · show P0 _ _ _ _ (61, _, _, _) _
            refine P0.b GX3_named 2 (ob := []) (cf' := (65, [some (.ref 0), some (.int x)], [.int ag], [pO 2 [.ref 1, .int d, .int s, .int nu, .int la, .int se, .int ag], pI 160 sk])) rfl trivial ?_
            exact P0.ri (by decide +kernel) rfl rfl ⟨by unfold nmN; rw [if_neg h1, if_neg h2, if_neg h3, if_neg h4, if_neg h5], rfl⟩
set_option maxHeartbeats 1000000 in
theorem isValue_n (c : Int32) : P0 0 0 0 mX7_isValue (0, ent 1 [.int c], [], []) (fun r h' => r = some (.int (if -6 ≤ c then 1 else 0)) ∧ h' = []) := by
  refine P0.b GX7_isValue 3 (ob := []) (cf' := (if c < -6 then 10 else 6, [some (.int c)], [], [])) rfl trivial ?_
  refine P0.if (fun h1 => ?_) (fun h1 => ?_)
  · refine P0.b GX7_isValue 1 (ob := []) (cf' := (11, [some (.int c)], [.int 0], [])) rfl trivial ?_
    exact P0.ri (by decide +kernel) rfl (by rfl) ⟨by rw [if_neg (Int32.not_le.mpr h1)], rfl⟩
  · refine P0.b GX7_isValue 2 (ob := []) (cf' := (11, [some (.int c)], [.int 1], [])) rfl trivial ?_
    exact P0.ri (by decide +kernel) rfl (by rfl) ⟨by rw [if_pos (Int32.not_lt.mp h1)], rfl⟩
set_option maxHeartbeats 1000000 in
theorem joined_n (c x y : Int32) : P0 0 0 0 mX8_joined (0, ent 3 [.int c, .int x, .int y], [], []) (fun r h' => r = some (.int (vBn c x y)) ∧ h' = []) := by
  refine P0.b GX8_joined 2 (ob := []) (cf' := (swT c 118 [((-20), 99), ((-19), 88), ((-18), 118), ((-17), 114), ((-16), 110), ((-15), 118), ((-14), 118), ((-13), 118), ((-12), 118), ((-11), 74), ((-10), 60)], [some (.int c), some (.int x), some (.int y)], [], [])) rfl trivial ?_
  refine P0.sw (fun h1 => ?_) (fun h1 => ?_)
  · refine P0.b GX8_joined 3 (ob := []) (cf' := (if x = y then 104 else 108, [some (.int c), some (.int x), some (.int y)], [], [])) rfl trivial ?_
    refine P0.if (fun h2 => ?_) (fun h2 => ?_)
    · refine P0.b GX8_joined 2 (ob := []) (cf' := (109, [some (.int c), some (.int x), some (.int y)], [.int 1], [])) rfl trivial ?_
      exact P0.ri (by decide +kernel) rfl rfl ⟨congrArg (fun y => some (Value.int y)) (by unfold vBn; simp [h1, h2]), rfl⟩
    · refine P0.b GX8_joined 1 (ob := []) (cf' := (109, [some (.int c), some (.int x), some (.int y)], [.int 0], [])) rfl trivial ?_
      exact P0.ri (by decide +kernel) rfl rfl ⟨congrArg (fun y => some (Value.int y)) (by unfold vBn; simp [h1, h2]), rfl⟩
  · refine P0.sw (fun h3 => ?_) (fun h3 => ?_)
    · refine P0.b GX8_joined 3 (ob := []) (cf' := (if y ≤ x then 97 else 93, [some (.int c), some (.int x), some (.int y)], [], [])) rfl trivial ?_
      refine P0.if (fun h4 => ?_) (fun h4 => ?_)
      · refine P0.b GX8_joined 1 (ob := []) (cf' := (98, [some (.int c), some (.int x), some (.int y)], [.int 0], [])) rfl trivial ?_
        exact P0.ri (by decide +kernel) rfl rfl ⟨congrArg (fun y => some (Value.int y)) (by unfold vBn; simp [h1, h3, h4]), rfl⟩
      · refine P0.b GX8_joined 2 (ob := []) (cf' := (98, [some (.int c), some (.int x), some (.int y)], [.int 1], [])) rfl trivial ?_
        exact P0.ri (by decide +kernel) rfl rfl ⟨congrArg (fun y => some (Value.int y)) (by unfold vBn; simp [h1, h3, h4]), rfl⟩
    · refine P0.sw (fun h5 => ?_) (fun h5 => ?_)
      · refine P0.b GX8_joined 3 (ob := []) (cf' := (121, [some (.int c), some (.int x), some (.int y)], [.int (x * y)], [])) rfl trivial ?_
        exact P0.ri (by decide +kernel) rfl rfl ⟨congrArg (fun y => some (Value.int y)) (by unfold vBn; simp [h1, h3, h5]), rfl⟩
      · refine P0.sw (fun h6 => ?_) (fun h6 => ?_)
        · refine P0.b GX8_joined 3 (ob := []) (cf' := (117, [some (.int c), some (.int x), some (.int y)], [.int (x - y)], [])) rfl trivial ?_
          exact P0.ri (by decide +kernel) rfl rfl ⟨congrArg (fun y => some (Value.int y)) (by unfold vBn; simp [h1, h3, h5, h6]), rfl⟩
        · refine P0.sw (fun h7 => ?_) (fun h7 => ?_)
          · refine P0.b GX8_joined 3 (ob := []) (cf' := (113, [some (.int c), some (.int x), some (.int y)], [.int (x + y)], [])) rfl trivial ?_
            exact P0.ri (by decide +kernel) rfl rfl ⟨congrArg (fun y => some (Value.int y)) (by unfold vBn; simp [h1, h3, h5, h6, h7]), rfl⟩
          · refine P0.sw (fun h8 => ?_) (fun h8 => ?_)
            · refine P0.b GX8_joined 3 (ob := []) (cf' := (121, [some (.int c), some (.int x), some (.int y)], [.int (x * y)], [])) rfl trivial ?_
              exact P0.ri (by decide +kernel) rfl rfl ⟨congrArg (fun y => some (Value.int y)) (by unfold vBn; simp [h1, h3, h5, h6, h7, h8]), rfl⟩
            · refine P0.sw (fun h9 => ?_) (fun h9 => ?_)
              · refine P0.b GX8_joined 3 (ob := []) (cf' := (121, [some (.int c), some (.int x), some (.int y)], [.int (x * y)], [])) rfl trivial ?_
                exact P0.ri (by decide +kernel) rfl rfl ⟨congrArg (fun y => some (Value.int y)) (by unfold vBn; simp [h1, h3, h5, h6, h7, h8, h9]), rfl⟩
              · refine P0.sw (fun h10 => ?_) (fun h10 => ?_)
                · refine P0.b GX8_joined 3 (ob := []) (cf' := (121, [some (.int c), some (.int x), some (.int y)], [.int (x * y)], [])) rfl trivial ?_
                  exact P0.ri (by decide +kernel) rfl rfl ⟨congrArg (fun y => some (Value.int y)) (by unfold vBn; simp [h1, h3, h5, h6, h7, h8, h9, h10]), rfl⟩
                · refine P0.sw (fun h11 => ?_) (fun h11 => ?_)
                  · refine P0.b GX8_joined 3 (ob := []) (cf' := (121, [some (.int c), some (.int x), some (.int y)], [.int (x * y)], [])) rfl trivial ?_
                    exact P0.ri (by decide +kernel) rfl rfl ⟨congrArg (fun y => some (Value.int y)) (by unfold vBn; simp [h1, h3, h5, h6, h7, h8, h9, h10, h11]), rfl⟩
                  · refine P0.sw (fun h12 => ?_) (fun h12 => ?_)
                    · refine P0.b GX8_joined 2 (ob := []) (cf' := (if x = 0 then 86 else 78, [some (.int c), some (.int x), some (.int y)], [], [])) rfl trivial ?_
                      refine P0.if (fun h13 => ?_) (fun h13 => ?_)
                      · refine P0.b GX8_joined 1 (ob := []) (cf' := (87, [some (.int c), some (.int x), some (.int y)], [.int 0], [])) rfl trivial ?_
                        exact P0.ri (by decide +kernel) rfl rfl ⟨congrArg (fun y => some (Value.int y)) (by unfold vBn; simp [h1, h3, h5, h6, h7, h8, h9, h10, h11, h12, h13]), rfl⟩
                      · refine P0.b GX8_joined 2 (ob := []) (cf' := (if y = 0 then 86 else 82, [some (.int c), some (.int x), some (.int y)], [], [])) rfl trivial ?_
                        refine P0.if (fun h14 => ?_) (fun h14 => ?_)
                        · refine P0.b GX8_joined 1 (ob := []) (cf' := (87, [some (.int c), some (.int x), some (.int y)], [.int 0], [])) rfl trivial ?_
                          exact P0.ri (by decide +kernel) rfl rfl ⟨congrArg (fun y => some (Value.int y)) (by unfold vBn; simp [h1, h3, h5, h6, h7, h8, h9, h10, h11, h12, h13, h14]), rfl⟩
                        · refine P0.b GX8_joined 2 (ob := []) (cf' := (87, [some (.int c), some (.int x), some (.int y)], [.int 1], [])) rfl trivial ?_
                          exact P0.ri (by decide +kernel) rfl rfl ⟨congrArg (fun y => some (Value.int y)) (by unfold vBn; simp [h1, h3, h5, h6, h7, h8, h9, h10, h11, h12, h13, h14]), rfl⟩
                    · refine P0.sw (fun h15 => ?_) (fun h15 => ?_)
                      · refine P0.b GX8_joined 2 (ob := []) (cf' := (if x = 0 then 64 else 68, [some (.int c), some (.int x), some (.int y)], [], [])) rfl trivial ?_
                        refine P0.if (fun h16 => ?_) (fun h16 => ?_)
                        · refine P0.b GX8_joined 2 (ob := []) (cf' := (if y = 0 then 72 else 68, [some (.int c), some (.int x), some (.int y)], [], [])) rfl trivial ?_
                          refine P0.if (fun h17 => ?_) (fun h17 => ?_)
                          · refine P0.b GX8_joined 1 (ob := []) (cf' := (73, [some (.int c), some (.int x), some (.int y)], [.int 0], [])) rfl trivial ?_
                            exact P0.ri (by decide +kernel) rfl rfl ⟨congrArg (fun y => some (Value.int y)) (by unfold vBn; simp [h1, h3, h5, h6, h7, h8, h9, h10, h11, h12, h15, h16, h17]), rfl⟩
                          · refine P0.b GX8_joined 2 (ob := []) (cf' := (73, [some (.int c), some (.int x), some (.int y)], [.int 1], [])) rfl trivial ?_
                            exact P0.ri (by decide +kernel) rfl rfl ⟨congrArg (fun y => some (Value.int y)) (by unfold vBn; simp [h1, h3, h5, h6, h7, h8, h9, h10, h11, h12, h15, h16, h17]), rfl⟩
                        · refine P0.b GX8_joined 2 (ob := []) (cf' := (73, [some (.int c), some (.int x), some (.int y)], [.int 1], [])) rfl trivial ?_
                          exact P0.ri (by decide +kernel) rfl rfl ⟨congrArg (fun y => some (Value.int y)) (by unfold vBn; simp [h1, h3, h5, h6, h7, h8, h9, h10, h11, h12, h15, h16]), rfl⟩
                      · show P0 _ _ _ _ (118, _, _, _) _
                        refine P0.b GX8_joined 3 (ob := []) (cf' := (121, [some (.int c), some (.int x), some (.int y)], [.int (x * y)], [])) rfl trivial ?_
                        exact P0.ri (by decide +kernel) rfl rfl ⟨congrArg (fun y => some (Value.int y)) (by unfold vBn; simp [h1, h3, h5, h6, h7, h8, h9, h10, h11, h12, h15]), rfl⟩
set_option maxHeartbeats 1000000 in
theorem reckon_n {d s nu la se ag : Int32} {sk : Nat → Int32} (c top : Int32) : P0 1 0 0 mX8_reckon (0, ent 5 [.int c, .int top, .ref 0], [], [pO 2 [.ref 1, .int d, .int s, .int nu, .int la, .int se, .int ag], pI 160 sk]) (fun r h' => r = some (.int (rkV (ev d s nu la se ag) c (top, sk)).1) ∧ h' = [pO 2 [.ref 1, .int d, .int s, .int nu, .int la, .int se, .int ag], pI 160 ((rkV (ev d s nu la se ag) c (top, sk)).2)]) := by
  refine P0.b GX8_reckon 4 (ob := []) (cf' := (6, [some (.int c), some (.int top), some (.ref 0), some (.ref 1), none], [.int c], [pO 2 [.ref 1, .int d, .int s, .int nu, .int la, .int se, .int ag], pI 160 sk])) rfl trivial ?_
  refine P0.cr (io := []) (as := [.int c]) (rest := []) (hc := []) (hc1 := []) (r1 := some (.int (if -6 ≤ c then 1 else 0))) (st' := [.int (if -6 ≤ c then 1 else 0)]) (h' := [pO 2 [.ref 1, .int d, .int s, .int nu, .int la, .int se, .int ag], pI 160 sk]) (d0 := 0) GX7_isValue kX8_reckon_6 rfl rfl (Nat.le_of_ble_eq_true rfl) (Nat.le_of_ble_eq_true rfl) rfl trivial (isValue_n c) (Nat.le_of_ble_eq_true rfl) rfl (Nat.le_of_ble_eq_true rfl) (Nat.le_of_ble_eq_true rfl) rfl rfl ?_
  refine P0.b GX8_reckon 1 (ob := []) (cf' := (if (if -6 ≤ c then 1 else 0) = 0 then 34 else 12, [some (.int c), some (.int top), some (.ref 0), some (.ref 1), none], [], [pO 2 [.ref 1, .int d, .int s, .int nu, .int la, .int se, .int ag], pI 160 sk])) rfl trivial ?_
  refine P0.ifB (fun h1 => ?_) (fun h1 => ?_)
  · refine P0.b GX8_reckon 4 (ob := []) (cf' := (38, [some (.int c), some (.int top), some (.ref 0), some (.ref 1), none], [.int (top - 1), .ref 1], [pO 2 [.ref 1, .int d, .int s, .int nu, .int la, .int se, .int ag], pI 160 sk])) rfl trivial ?_
    refine P0.cr (io := [1]) (as := [.ref 0, .int (top - 1)]) (rest := []) (hc := [pI 160 sk]) (hc1 := [pI 160 sk]) (r1 := some (.int (rowAt 160 sk (top - 1)))) (st' := [.int (rowAt 160 sk (top - 1))]) (h' := [pO 2 [.ref 1, .int d, .int s, .int nu, .int la, .int se, .int ag], pI 160 sk]) (d0 := 0) GX5_at kX8_reckon_38 rfl rfl (Nat.le_of_ble_eq_true rfl) (Nat.le_of_ble_eq_true rfl) rfl ⟨rfl, trivial⟩ (e_X5_at (n := 160) (by decide) sk (top - 1)) (Nat.zero_le _) rfl (Nat.le_of_ble_eq_true rfl) (Nat.le_of_ble_eq_true rfl) rfl rfl ?_
    refine P0.b GX8_reckon 4 (ob := []) (cf' := (if c = -12 then 55 else 49, [some (.int c), some (.int top), some (.ref 0), some (.ref 1), some (.int (rowAt 160 sk (top - 1)))], [], [pO 2 [.ref 1, .int d, .int s, .int nu, .int la, .int se, .int ag], pI 160 sk])) rfl trivial ?_
    refine P0.if (fun h2 => ?_) (fun h2 => ?_)
    · refine P0.b GX8_reckon 7 (ob := []) (cf' := (if c = -21 then 65 else 71, [some (.int c), some (.int top), some (.ref 0), some (.ref 1), some (.int (rowAt 160 sk (top - 1)))], [.int (top - 1), .ref 1], [pO 2 [.ref 1, .int d, .int s, .int nu, .int la, .int se, .int ag], pI 160 sk])) rfl trivial ?_
      rw [if_neg (show ¬ (c = -21) from by rw [h2]; decide)]
      refine P0.b GX8_reckon 2 (ob := []) (cf' := (if rowAt 160 sk (top - 1) = 0 then 76 else 80, [some (.int c), some (.int top), some (.ref 0), some (.ref 1), some (.int (rowAt 160 sk (top - 1)))], [.int (top - 1), .ref 1], [pO 2 [.ref 1, .int d, .int s, .int nu, .int la, .int se, .int ag], pI 160 sk])) rfl trivial ?_
      refine P0.if (fun h3 => ?_) (fun h3 => ?_)
      · refine P0.b GX8_reckon 2 (ob := []) (cf' := (81, [some (.int c), some (.int top), some (.ref 0), some (.ref 1), some (.int (rowAt 160 sk (top - 1)))], [.int 1, .int (top - 1), .ref 1], [pO 2 [.ref 1, .int d, .int s, .int nu, .int la, .int se, .int ag], pI 160 sk])) rfl trivial ?_
        refine P0.cr (io := [1]) (as := [.ref 0, .int (top - 1), .int 1]) (rest := []) (hc := [pI 160 sk]) (hc1 := [pI 160 (rowPut 160 sk (top - 1) 1)]) (r1 := none) (st' := []) (h' := [pO 2 [.ref 1, .int d, .int s, .int nu, .int la, .int se, .int ag], pI 160 (rowPut 160 sk (top - 1) 1)]) (d0 := 0) GX5_put kX8_reckon_81 rfl rfl (Nat.le_of_ble_eq_true rfl) (Nat.le_of_ble_eq_true rfl) rfl ⟨rfl, trivial⟩ (e_X5_put (n := 160) (by decide) sk (top - 1) 1) (Nat.zero_le _) rfl (Nat.le_of_ble_eq_true rfl) (Nat.le_of_ble_eq_true rfl) rfl rfl ?_
        refine P0.b GX8_reckon 1 (ob := []) (cf' := (85, [some (.int c), some (.int top), some (.ref 0), some (.ref 1), some (.int (rowAt 160 sk (top - 1)))], [.int top], [pO 2 [.ref 1, .int d, .int s, .int nu, .int la, .int se, .int ag], pI 160 (rowPut 160 sk (top - 1) 1)])) rfl trivial ?_
        exact P0.ri (by decide +kernel) rfl rfl ⟨by unfold rkV; rw [if_neg h1, if_pos h2], by unfold rkV vUn; rw [if_neg h1, if_pos h2]; simp [h2, h3]⟩
      · refine P0.b GX8_reckon 1 (ob := []) (cf' := (81, [some (.int c), some (.int top), some (.ref 0), some (.ref 1), some (.int (rowAt 160 sk (top - 1)))], [.int 0, .int (top - 1), .ref 1], [pO 2 [.ref 1, .int d, .int s, .int nu, .int la, .int se, .int ag], pI 160 sk])) rfl trivial ?_
        refine P0.cr (io := [1]) (as := [.ref 0, .int (top - 1), .int 0]) (rest := []) (hc := [pI 160 sk]) (hc1 := [pI 160 (rowPut 160 sk (top - 1) 0)]) (r1 := none) (st' := []) (h' := [pO 2 [.ref 1, .int d, .int s, .int nu, .int la, .int se, .int ag], pI 160 (rowPut 160 sk (top - 1) 0)]) (d0 := 0) GX5_put kX8_reckon_81 rfl rfl (Nat.le_of_ble_eq_true rfl) (Nat.le_of_ble_eq_true rfl) rfl ⟨rfl, trivial⟩ (e_X5_put (n := 160) (by decide) sk (top - 1) 0) (Nat.zero_le _) rfl (Nat.le_of_ble_eq_true rfl) (Nat.le_of_ble_eq_true rfl) rfl rfl ?_
        refine P0.b GX8_reckon 1 (ob := []) (cf' := (85, [some (.int c), some (.int top), some (.ref 0), some (.ref 1), some (.int (rowAt 160 sk (top - 1)))], [.int top], [pO 2 [.ref 1, .int d, .int s, .int nu, .int la, .int se, .int ag], pI 160 (rowPut 160 sk (top - 1) 0)])) rfl trivial ?_
        exact P0.ri (by decide +kernel) rfl rfl ⟨by unfold rkV; rw [if_neg h1, if_pos h2], by unfold rkV vUn; rw [if_neg h1, if_pos h2]; simp [h2, h3]⟩
    · refine P0.b GX8_reckon 3 (ob := []) (cf' := (if c = -21 then 55 else 86, [some (.int c), some (.int top), some (.ref 0), some (.ref 1), some (.int (rowAt 160 sk (top - 1)))], [], [pO 2 [.ref 1, .int d, .int s, .int nu, .int la, .int se, .int ag], pI 160 sk])) rfl trivial ?_
      refine P0.if (fun h4 => ?_) (fun h4 => ?_)
      · refine P0.b GX8_reckon 7 (ob := []) (cf' := (if c = -21 then 65 else 71, [some (.int c), some (.int top), some (.ref 0), some (.ref 1), some (.int (rowAt 160 sk (top - 1)))], [.int (top - 1), .ref 1], [pO 2 [.ref 1, .int d, .int s, .int nu, .int la, .int se, .int ag], pI 160 sk])) rfl trivial ?_
        rw [if_pos (show c = -21 from h4)]
        refine P0.b GX8_reckon 3 (ob := []) (cf' := (81, [some (.int c), some (.int top), some (.ref 0), some (.ref 1), some (.int (rowAt 160 sk (top - 1)))], [.int (-(rowAt 160 sk (top - 1))), .int (top - 1), .ref 1], [pO 2 [.ref 1, .int d, .int s, .int nu, .int la, .int se, .int ag], pI 160 sk])) rfl trivial ?_
        refine P0.cr (io := [1]) (as := [.ref 0, .int (top - 1), .int (-(rowAt 160 sk (top - 1)))]) (rest := []) (hc := [pI 160 sk]) (hc1 := [pI 160 (rowPut 160 sk (top - 1) (-(rowAt 160 sk (top - 1))))]) (r1 := none) (st' := []) (h' := [pO 2 [.ref 1, .int d, .int s, .int nu, .int la, .int se, .int ag], pI 160 (rowPut 160 sk (top - 1) (-(rowAt 160 sk (top - 1))))]) (d0 := 0) GX5_put kX8_reckon_81 rfl rfl (Nat.le_of_ble_eq_true rfl) (Nat.le_of_ble_eq_true rfl) rfl ⟨rfl, trivial⟩ (e_X5_put (n := 160) (by decide) sk (top - 1) (-(rowAt 160 sk (top - 1)))) (Nat.zero_le _) rfl (Nat.le_of_ble_eq_true rfl) (Nat.le_of_ble_eq_true rfl) rfl rfl ?_
        refine P0.b GX8_reckon 1 (ob := []) (cf' := (85, [some (.int c), some (.int top), some (.ref 0), some (.ref 1), some (.int (rowAt 160 sk (top - 1)))], [.int top], [pO 2 [.ref 1, .int d, .int s, .int nu, .int la, .int se, .int ag], pI 160 (rowPut 160 sk (top - 1) (-(rowAt 160 sk (top - 1))))])) rfl trivial ?_
        exact P0.ri (by decide +kernel) rfl rfl ⟨by unfold rkV; rw [if_neg h1, if_neg h2, if_pos h4], by unfold rkV vUn; rw [if_neg h1, if_neg h2, if_pos h4]; simp [h2, h4]⟩
      · refine P0.b GX8_reckon 8 (ob := []) (cf' := (94, [some (.int c), some (.int top), some (.ref 0), some (.ref 1), some (.int (rowAt 160 sk (top - 1)))], [.int 2, .int top, .ref 1, .int c, .int (top - 2), .ref 1], [pO 2 [.ref 1, .int d, .int s, .int nu, .int la, .int se, .int ag], pI 160 sk])) rfl trivial ?_
        refine P0.b GX8_reckon 1 (ob := []) (cf' := (95, [some (.int c), some (.int top), some (.ref 0), some (.ref 1), some (.int (rowAt 160 sk (top - 1)))], [.int (top - 2), .ref 1, .int c, .int (top - 2), .ref 1], [pO 2 [.ref 1, .int d, .int s, .int nu, .int la, .int se, .int ag], pI 160 sk])) rfl trivial ?_
        refine P0.cr (io := [1]) (as := [.ref 0, .int (top - 2)]) (rest := [.int c, .int (top - 2), .ref 1]) (hc := [pI 160 sk]) (hc1 := [pI 160 sk]) (r1 := some (.int (rowAt 160 sk (top - 2)))) (st' := [.int (rowAt 160 sk (top - 2)), .int c, .int (top - 2), .ref 1]) (h' := [pO 2 [.ref 1, .int d, .int s, .int nu, .int la, .int se, .int ag], pI 160 sk]) (d0 := 0) GX5_at kX8_reckon_95 rfl rfl (Nat.le_of_ble_eq_true rfl) (Nat.le_of_ble_eq_true rfl) rfl ⟨rfl, trivial⟩ (e_X5_at (n := 160) (by decide) sk (top - 2)) (Nat.zero_le _) rfl (Nat.le_of_ble_eq_true rfl) (Nat.le_of_ble_eq_true rfl) rfl rfl ?_
        refine P0.b GX8_reckon 1 (ob := []) (cf' := (100, [some (.int c), some (.int top), some (.ref 0), some (.ref 1), some (.int (rowAt 160 sk (top - 1)))], [.int (rowAt 160 sk (top - 1)), .int (rowAt 160 sk (top - 2)), .int c, .int (top - 2), .ref 1], [pO 2 [.ref 1, .int d, .int s, .int nu, .int la, .int se, .int ag], pI 160 sk])) rfl trivial ?_
        refine P0.cr (io := []) (as := [.int c, .int (rowAt 160 sk (top - 2)), .int (rowAt 160 sk (top - 1))]) (rest := [.int (top - 2), .ref 1]) (hc := []) (hc1 := []) (r1 := some (.int (vBn c (rowAt 160 sk (top - 2)) (rowAt 160 sk (top - 1))))) (st' := [.int (vBn c (rowAt 160 sk (top - 2)) (rowAt 160 sk (top - 1))), .int (top - 2), .ref 1]) (h' := [pO 2 [.ref 1, .int d, .int s, .int nu, .int la, .int se, .int ag], pI 160 sk]) (d0 := 0) GX8_joined kX8_reckon_100 rfl rfl (Nat.le_of_ble_eq_true rfl) (Nat.le_of_ble_eq_true rfl) rfl trivial (joined_n c (rowAt 160 sk (top - 2)) (rowAt 160 sk (top - 1))) (Nat.le_of_ble_eq_true rfl) rfl (Nat.le_of_ble_eq_true rfl) (Nat.le_of_ble_eq_true rfl) rfl rfl ?_
        refine P0.cr (io := [1]) (as := [.ref 0, .int (top - 2), .int (vBn c (rowAt 160 sk (top - 2)) (rowAt 160 sk (top - 1)))]) (rest := []) (hc := [pI 160 sk]) (hc1 := [pI 160 (rowPut 160 sk (top - 2) (vBn c (rowAt 160 sk (top - 2)) (rowAt 160 sk (top - 1))))]) (r1 := none) (st' := []) (h' := [pO 2 [.ref 1, .int d, .int s, .int nu, .int la, .int se, .int ag], pI 160 (rowPut 160 sk (top - 2) (vBn c (rowAt 160 sk (top - 2)) (rowAt 160 sk (top - 1))))]) (d0 := 0) GX5_put kX8_reckon_103 rfl rfl (Nat.le_of_ble_eq_true rfl) (Nat.le_of_ble_eq_true rfl) rfl ⟨rfl, trivial⟩ (e_X5_put (n := 160) (by decide) sk (top - 2) (vBn c (rowAt 160 sk (top - 2)) (rowAt 160 sk (top - 1)))) (Nat.zero_le _) rfl (Nat.le_of_ble_eq_true rfl) (Nat.le_of_ble_eq_true rfl) rfl rfl ?_
        refine P0.b GX8_reckon 3 (ob := []) (cf' := (109, [some (.int c), some (.int top), some (.ref 0), some (.ref 1), some (.int (rowAt 160 sk (top - 1)))], [.int (top - 1)], [pO 2 [.ref 1, .int d, .int s, .int nu, .int la, .int se, .int ag], pI 160 (rowPut 160 sk (top - 2) (vBn c (rowAt 160 sk (top - 2)) (rowAt 160 sk (top - 1))))])) rfl trivial ?_
        exact P0.ri (by decide +kernel) rfl rfl ⟨by unfold rkV; rw [if_neg h1, if_neg h2, if_neg h4], by unfold rkV; rw [if_neg h1, if_neg h2, if_neg h4]⟩
  · refine P0.b GX8_reckon 4 (ob := []) (cf' := (if c < 0 then 22 else 18, [some (.int c), some (.int top), some (.ref 0), some (.ref 1), none], [.int top, .ref 1], [pO 2 [.ref 1, .int d, .int s, .int nu, .int la, .int se, .int ag], pI 160 sk])) rfl trivial ?_
    refine P0.if (fun h5 => ?_) (fun h5 => ?_)
    · refine P0.b GX8_reckon 2 (ob := []) (cf' := (24, [some (.int c), some (.int top), some (.ref 0), some (.ref 1), none], [.int c, .ref 0, .int top, .ref 1], [pO 2 [.ref 1, .int d, .int s, .int nu, .int la, .int se, .int ag], pI 160 sk])) rfl trivial ?_
      refine P0.cr (io := [0, 1]) (as := [.ref 0, .int c]) (rest := [.int top, .ref 1]) (hc := [pO 2 [.ref 1, .int d, .int s, .int nu, .int la, .int se, .int ag], pI 160 sk]) (hc1 := [pO 2 [.ref 1, .int d, .int s, .int nu, .int la, .int se, .int ag], pI 160 sk]) (r1 := some (.int (nmN d s nu la se ag c))) (st' := [.int (nmN d s nu la se ag c), .int top, .ref 1]) (h' := [pO 2 [.ref 1, .int d, .int s, .int nu, .int la, .int se, .int ag], pI 160 sk]) (d0 := 0) GX3_named kX8_reckon_24 rfl ⟨_, _, rfl, rfl, .inl ⟨_, _, _, _, rfl, rfl⟩⟩ (Nat.le_of_ble_eq_true rfl) (Nat.le_of_ble_eq_true rfl) rfl ⟨rfl, rfl, trivial⟩ (named_n c) (Nat.le_of_ble_eq_true rfl) rfl (Nat.le_of_ble_eq_true rfl) (Nat.le_of_ble_eq_true rfl) rfl rfl ?_
      refine P0.cr (io := [1]) (as := [.ref 0, .int top, .int (nmN d s nu la se ag c)]) (rest := []) (hc := [pI 160 sk]) (hc1 := [pI 160 (rowPut 160 sk top (nmN d s nu la se ag c))]) (r1 := none) (st' := []) (h' := [pO 2 [.ref 1, .int d, .int s, .int nu, .int la, .int se, .int ag], pI 160 (rowPut 160 sk top (nmN d s nu la se ag c))]) (d0 := 0) GX5_put kX8_reckon_27 rfl rfl (Nat.le_of_ble_eq_true rfl) (Nat.le_of_ble_eq_true rfl) rfl ⟨rfl, trivial⟩ (e_X5_put (n := 160) (by decide) sk top (nmN d s nu la se ag c)) (Nat.zero_le _) rfl (Nat.le_of_ble_eq_true rfl) (Nat.le_of_ble_eq_true rfl) rfl rfl ?_
      refine P0.b GX8_reckon 3 (ob := []) (cf' := (33, [some (.int c), some (.int top), some (.ref 0), some (.ref 1), none], [.int (top + 1)], [pO 2 [.ref 1, .int d, .int s, .int nu, .int la, .int se, .int ag], pI 160 (rowPut 160 sk top (nmN d s nu la se ag c))])) rfl trivial ?_
      exact P0.ri (by decide +kernel) rfl rfl ⟨by unfold rkV; rw [if_pos h1], by unfold rkV; rw [if_pos h1, nm_v h1 (h5)]⟩
    · refine P0.b GX8_reckon 2 (ob := []) (cf' := (27, [some (.int c), some (.int top), some (.ref 0), some (.ref 1), none], [.int c, .int top, .ref 1], [pO 2 [.ref 1, .int d, .int s, .int nu, .int la, .int se, .int ag], pI 160 sk])) rfl trivial ?_
      refine P0.cr (io := [1]) (as := [.ref 0, .int top, .int c]) (rest := []) (hc := [pI 160 sk]) (hc1 := [pI 160 (rowPut 160 sk top c)]) (r1 := none) (st' := []) (h' := [pO 2 [.ref 1, .int d, .int s, .int nu, .int la, .int se, .int ag], pI 160 (rowPut 160 sk top c)]) (d0 := 0) GX5_put kX8_reckon_27 rfl rfl (Nat.le_of_ble_eq_true rfl) (Nat.le_of_ble_eq_true rfl) rfl ⟨rfl, trivial⟩ (e_X5_put (n := 160) (by decide) sk top c) (Nat.zero_le _) rfl (Nat.le_of_ble_eq_true rfl) (Nat.le_of_ble_eq_true rfl) rfl rfl ?_
      refine P0.b GX8_reckon 3 (ob := []) (cf' := (33, [some (.int c), some (.int top), some (.ref 0), some (.ref 1), none], [.int (top + 1)], [pO 2 [.ref 1, .int d, .int s, .int nu, .int la, .int se, .int ag], pI 160 (rowPut 160 sk top c)])) rfl trivial ?_
      exact P0.ri (by decide +kernel) rfl rfl ⟨by unfold rkV; rw [if_pos h1], by unfold rkV; rw [if_pos h1, ← nm_p (h5)]⟩
/-- a part's value, cut to its bounds -/
def cutP (which v : Int32) : Int32 := if (if which = 2 then -99 else 0) < (if v < 99 then v else 99) then (if v < 99 then v else 99) else (if which = 2 then -99 else 0)
theorem cutP_eq (which v : Int32) : cutP which v = cut which v := by
  unfold cutP cut
  have hlo : (if which = 2 then (-99 : Int32) else 0) < 99 := by split <;> decide
  generalize (if which = 2 then (-99 : Int32) else 0) = lo at hlo
  by_cases h1 : v < lo
  · have h2 : v < 99 := Int32.lt_trans h1 hlo
    rw [if_pos h1, if_pos h2, if_neg (Int32.not_lt.mpr (Int32.le_of_lt h1))]
  · rw [if_neg h1]
    by_cases h2 : v < 99
    · rw [if_pos h2, if_neg (Int32.not_lt.mpr (Int32.le_of_lt h2))]
      by_cases h3 : lo < v
      · rw [if_pos h3]
      · rw [if_neg h3]; exact Int32.le_antisymm (Int32.not_lt.mp h1) (Int32.not_lt.mp h3)
    · rw [if_neg h2, if_pos hlo]
      by_cases h3 : 99 < v
      · rw [if_pos h3]
      · rw [if_neg h3]; exact Int32.le_antisymm (Int32.not_lt.mp h2) (Int32.not_lt.mp h3)
