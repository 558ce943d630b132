/-! ===== laid by program (wip/tools) ===== -/
set_option maxHeartbeats 1000000 in
theorem e_isSign_raw {g : Nat → Int32} {a : Nat → Nat → Int32} {fr n e tk p : Int32} {w : Int64} {op bd fl : Int32} (c : Int32) : P0 0 0 0 mX11_isSign (0, ent 2 [.ref 0, .int c], [], hT g a fr n e tk p w op bd fl) (fun r h' => r = some (.int (if bd = 0 ∧ tk = 3 ∧ w = c.toInt64 then 1 else 0)) ∧ h' = hT g a fr n e tk p w op bd fl) := by
  refine P0.b GX11_isSign 3 (ob := []) (cf' := (if bd = 0 then 7 else 29, [some (.ref 0), some (.int c)], [], hT g a fr n e tk p w op bd fl)) rfl trivial ?_
  refine P0.if (fun h1 => ?_) (fun h1 => ?_)
  · refine P0.b GX11_isSign 4 (ob := []) (cf' := (if tk = 3 then 15 else 29, [some (.ref 0), some (.int c)], [], hT g a fr n e tk p w op bd fl)) rfl trivial ?_
    refine P0.if (fun h2 => ?_) (fun h2 => ?_)
    · refine P0.b GX11_isSign 6 (ob := []) (cf' := (if lg_cmp w c.toInt64 = 0 then 25 else 29, [some (.ref 0), some (.int c)], [], hT g a fr n e tk p w op bd fl)) rfl trivial ?_
      refine P0.if (fun h3 => ?_) (fun h3 => ?_)
      · refine P0.b GX11_isSign 2 (ob := []) (cf' := (30, [some (.ref 0), some (.int c)], [.int 1], hT g a fr n e tk p w op bd fl)) rfl trivial ?_
        exact P0.ri (by decide +kernel) rfl (by rfl) ⟨by simp only [lgc_eq] at *; simp [h1, h2, h3], rfl⟩
      · refine P0.b GX11_isSign 1 (ob := []) (cf' := (30, [some (.ref 0), some (.int c)], [.int 0], hT g a fr n e tk p w op bd fl)) rfl trivial ?_
        exact P0.ri (by decide +kernel) rfl (by rfl) ⟨by simp only [lgc_eq] at *; simp [h1, h2, h3], rfl⟩
    · refine P0.b GX11_isSign 1 (ob := []) (cf' := (30, [some (.ref 0), some (.int c)], [.int 0], hT g a fr n e tk p w op bd fl)) rfl trivial ?_
      exact P0.ri (by decide +kernel) rfl (by rfl) ⟨by simp [h1, h2], rfl⟩
  · refine P0.b GX11_isSign 1 (ob := []) (cf' := (30, [some (.ref 0), some (.int c)], [.int 0], hT g a fr n e tk p w op bd fl)) rfl trivial ?_
    exact P0.ri (by decide +kernel) rfl (by rfl) ⟨by simp [h1], rfl⟩
theorem if_cg {P Q : Prop} [Decidable P] [Decidable Q] {α : Type} (h : P ↔ Q) (x y : α) : (if P then x else y) = if Q then x else y := by
  by_cases hp : P
  · rw [if_pos hp, if_pos (h.mp hp)]
  · rw [if_neg hp, if_neg (fun z => hp (h.mpr z))]
theorem e_isSign_bad {g : Nat → Int32} {a : Nat → Nat → Int32} {fr n e tk p : Int32} {w : Int64} {op fl : Int32} {c : Int32} : P0 0 0 0 mX11_isSign (0, ent 2 [.ref 0, .int c], [], hT g a fr n e tk p w op 1 fl) (fun r h' => r = some (.int 0) ∧ h' = hT g a fr n e tk p w op 1 fl) := by
  have h := e_isSign_raw (g := g) (a := a) (fr := fr) (n := n) (e := e) (tk := tk) (p := p) (w := w) (op := op) (bd := 1) (fl := fl) c
  rw [if_neg (by simp)] at h
  exact h
theorem e_isSign_ok {g : Nat → Int32} {a : Nat → Nat → Int32} {fr n p : Nat} {w : Int64} {op fl : Int32} (hw : wOK (Bt (a 1) fr n) p w) {c code : Int32} (hm : (c, code) ∈ signs) : P0 0 0 0 mX11_isSign (0, ent 2 [.ref 0, .int c], [], hT g a (nI fr) (nI n) (nI (en (Bt (a 1) fr n) p)) (kd (Bt (a 1) fr n) p) (nI p) w op 0 fl) (fun r h' => r = some (.int (if sg (Bt (a 1) fr n) p = code then 1 else 0)) ∧ h' = hT g a (nI fr) (nI n) (nI (en (Bt (a 1) fr n) p)) (kd (Bt (a 1) fr n) p) (nI p) w op 0 fl) := by
  have h := e_isSign_raw (g := g) (a := a) (fr := nI fr) (n := nI n) (e := nI (en (Bt (a 1) fr n) p)) (tk := kd (Bt (a 1) fr n) p) (p := nI p) (w := w) (op := op) (bd := 0) (fl := fl) c
  simp only [true_and, sign_iff hw hm] at h
  exact h
set_option maxHeartbeats 1000000 in
theorem e_fail_ok {g : Nat → Int32} {a : Nat → Nat → Int32} {fr n e tk p : Int32} {w : Int64} {op fl : Int32} : P0 0 0 0 mX11_fail (0, ent 1 [.ref 0], [], hT g a fr n e tk p w op 0 fl) (fun r h' => r = none ∧ h' = hT g a fr n e tk p w op 1 p) := by
  refine P0.b GX11_fail 10 (ob := [1 = 0 ∨ 1 = 1]) (cf' := (20, [some (.ref 0)], [], hT g a fr n e tk p w op 1 p)) rfl ⟨.inr rfl, trivial⟩ ?_
  exact P0.rv (by decide +kernel) rfl ⟨rfl, rfl⟩
set_option maxHeartbeats 1000000 in
theorem e_fail_bad {g : Nat → Int32} {a : Nat → Nat → Int32} {fr n e tk p : Int32} {w : Int64} {op fl : Int32} : P0 0 0 0 mX11_fail (0, ent 1 [.ref 0], [], hT g a fr n e tk p w op 1 fl) (fun r h' => r = none ∧ h' = hT g a fr n e tk p w op 1 fl) := by
  refine P0.b GX11_fail 3 (ob := []) (cf' := (20, [some (.ref 0)], [], hT g a fr n e tk p w op 1 fl)) rfl trivial ?_
  exact P0.rv (by decide +kernel) rfl ⟨rfl, rfl⟩
theorem let_q1 {A : Prop} {e p i : Nat} (h9 : A ↔ e ≤ p + i) (h1 : A) : ¬ p + i < e := by have := h9.mp h1; omega
theorem let_q2 {A : Prop} {e p i : Nat} (h9 : A ↔ e ≤ p + i) (h1 : ¬ A) : p + i < e := by
  rcases Nat.lt_or_ge (p + i) e with q | q
  · exact q
  · exact absurd (h9.mpr q) h1
set_option maxHeartbeats 1000000 in
theorem e_isLetter {g : Nat → Int32} {a : Nat → Nat → Int32} {fr n : Nat} (hT0 : TxOK a fr n) {e p : Nat} {tk : Int32} {w : Int64} {op bd fl : Int32} (hp : p ≤ 160) (he : e ≤ 160) (i : Nat) (hi : i < 8) (c : Int32) : P0 1 0 0 mX11_isLetter (0, ent 3 [.ref 0, .int (nI i), .int c], [], hT g a (nI fr) (nI n) (nI e) tk (nI p) w op bd fl) (fun r h' => r = some (.int (if letP (Bt (a 1) fr n) p e i c then 1 else 0)) ∧ h' = hT g a (nI fr) (nI n) (nI e) tk (nI p) w op bd fl) := by
  have h9 : (nI e ≤ nI p + nI i) ↔ e ≤ p + i := by rw [nI_add]; exact nI_leI (by omega) (by omega)
  refine P0.b GX11_isLetter 7 (ob := []) (cf' := (if nI e ≤ (nI p) + (nI i) then 35 else 13, [some (.ref 0), some (.int (nI i)), some (.int c)], [], hT g a (nI fr) (nI n) (nI e) tk (nI p) w op bd fl)) rfl trivial ?_
  refine P0.if (fun h1 => ?_) (fun h1 => ?_)
  · refine P0.b GX11_isLetter 2 (ob := []) (cf' := (if c = 0 then 39 else 43, [some (.ref 0), some (.int (nI i)), some (.int c)], [], hT g a (nI fr) (nI n) (nI e) tk (nI p) w op bd fl)) rfl trivial ?_
    refine P0.if (fun h2 => ?_) (fun h2 => ?_)
    · refine P0.b GX11_isLetter 2 (ob := []) (cf' := (44, [some (.ref 0), some (.int (nI i)), some (.int c)], [.int 1], hT g a (nI fr) (nI n) (nI e) tk (nI p) w op bd fl)) rfl trivial ?_
      exact P0.ri (by decide +kernel) rfl (by rfl) ⟨by simp [letP, let_q1 h9 h1, h2], rfl⟩
    · refine P0.b GX11_isLetter 1 (ob := []) (cf' := (44, [some (.ref 0), some (.int (nI i)), some (.int c)], [.int 0], hT g a (nI fr) (nI n) (nI e) tk (nI p) w op bd fl)) rfl trivial ?_
      exact P0.ri (by decide +kernel) rfl (by rfl) ⟨by simp [letP, let_q1 h9 h1, h2], rfl⟩
  · refine P0.b GX11_isLetter 5 (ob := []) (cf' := (20, [some (.ref 0), some (.int (nI i)), some (.int c)], [.int ((nI p) + (nI i)), .ref 0], hT g a (nI fr) (nI n) (nI e) tk (nI p) w op bd fl)) rfl trivial ?_
    rw [nI_add p i]
    refine P0.cd (d0 := 0) (as := [.ref 0, .int (nI (p + i))]) (rest := []) (r1 := some (.int (Bt (a 1) fr n (p + i)))) (h1 := hT g a (nI fr) (nI n) (nI e) tk (nI p) w op bd fl) (st' := [.int (Bt (a 1) fr n (p + i))]) GX11_byteAt kX11_isLetter_20 rfl ⟨_, _, rfl, rfl, .inl ⟨_, _, _, _, rfl, rfl⟩⟩ (Nat.le_of_ble_eq_true rfl) (Nat.le_of_ble_eq_true rfl) (e_byteT hT0 (p + i) (by omega)) (Nat.le_of_ble_eq_true rfl) rfl (Nat.le_of_ble_eq_true rfl) rfl ?_
    refine P0.b GX11_isLetter 2 (ob := []) (cf' := (if Bt (a 1) fr n (p + i) = c then 27 else 31, [some (.ref 0), some (.int (nI i)), some (.int c)], [], hT g a (nI fr) (nI n) (nI e) tk (nI p) w op bd fl)) rfl trivial ?_
    refine P0.if (fun h3 => ?_) (fun h3 => ?_)
    · refine P0.b GX11_isLetter 2 (ob := []) (cf' := (44, [some (.ref 0), some (.int (nI i)), some (.int c)], [.int 1], hT g a (nI fr) (nI n) (nI e) tk (nI p) w op bd fl)) rfl trivial ?_
      exact P0.ri (by decide +kernel) rfl (by rfl) ⟨by simp [letP, let_q2 h9 h1, h3], rfl⟩
    · refine P0.b GX11_isLetter 2 (ob := []) (cf' := (44, [some (.ref 0), some (.int (nI i)), some (.int c)], [.int 0], hT g a (nI fr) (nI n) (nI e) tk (nI p) w op bd fl)) rfl trivial ?_
      exact P0.ri (by decide +kernel) rfl (by rfl) ⟨by simp [letP, let_q2 h9 h1, h3], rfl⟩
set_option maxHeartbeats 4000000 in
theorem e_isWord_raw {g : Nat → Int32} {a : Nat → Nat → Int32} {fr n : Nat} (hT0 : TxOK a fr n) {e p : Nat} {tk : Int32} {w : Int64} {op bd fl : Int32} (hp : p ≤ 160) (he : e ≤ 160) (c0 c1 c2 c3 c4 c5 c6 c7 : Int32) : P0 2 0 0 mX11_isWord (0, ent 9 [.ref 0, .int c0, .int c1, .int c2, .int c3, .int c4, .int c5, .int c6, .int c7], [], hT g a (nI fr) (nI n) (nI e) tk (nI p) w op bd fl) (fun r h' => r = some (.int (if bd = 0 ∧ tk = 1 ∧ ¬ nI p + 8 < nI e ∧ letP (Bt (a 1) fr n) p e 0 c0 ∧ letP (Bt (a 1) fr n) p e 1 c1 ∧ letP (Bt (a 1) fr n) p e 2 c2 ∧ letP (Bt (a 1) fr n) p e 3 c3 ∧ letP (Bt (a 1) fr n) p e 4 c4 ∧ letP (Bt (a 1) fr n) p e 5 c5 ∧ letP (Bt (a 1) fr n) p e 6 c6 ∧ letP (Bt (a 1) fr n) p e 7 c7 then 1 else 0)) ∧ h' = hT g a (nI fr) (nI n) (nI e) tk (nI p) w op bd fl) := by
  refine P0.b GX11_isWord 3 (ob := []) (cf' := (if bd = 0 then 7 else 112, [some (.ref 0), some (.int c0), some (.int c1), some (.int c2), some (.int c3), some (.int c4), some (.int c5), some (.int c6), some (.int c7)], [], hT g a (nI fr) (nI n) (nI e) tk (nI p) w op bd fl)) rfl trivial ?_
  refine P0.if (fun h1 => ?_) (fun h1 => ?_)
  · refine P0.b GX11_isWord 4 (ob := []) (cf' := (if tk = 1 then 15 else 112, [some (.ref 0), some (.int c0), some (.int c1), some (.int c2), some (.int c3), some (.int c4), some (.int c5), some (.int c6), some (.int c7)], [], hT g a (nI fr) (nI n) (nI e) tk (nI p) w op bd fl)) rfl trivial ?_
    refine P0.if (fun h2 => ?_) (fun h2 => ?_)
    · refine P0.b GX11_isWord 7 (ob := []) (cf' := (if (nI p) + 8 < nI e then 112 else 29, [some (.ref 0), some (.int c0), some (.int c1), some (.int c2), some (.int c3), some (.int c4), some (.int c5), some (.int c6), some (.int c7)], [], hT g a (nI fr) (nI n) (nI e) tk (nI p) w op bd fl)) rfl trivial ?_
      refine P0.if (fun h3 => ?_) (fun h3 => ?_)
      · refine P0.b GX11_isWord 1 (ob := []) (cf' := (113, [some (.ref 0), some (.int c0), some (.int c1), some (.int c2), some (.int c3), some (.int c4), some (.int c5), some (.int c6), some (.int c7)], [.int 0], hT g a (nI fr) (nI n) (nI e) tk (nI p) w op bd fl)) rfl trivial ?_
        exact P0.ri (by decide +kernel) rfl (by rfl) ⟨by rw [if_neg (fun z => z.2.2.1 h3)], rfl⟩
      · refine P0.b GX11_isWord 3 (ob := []) (cf' := (32, [some (.ref 0), some (.int c0), some (.int c1), some (.int c2), some (.int c3), some (.int c4), some (.int c5), some (.int c6), some (.int c7)], [.int c0, .int 0, .ref 0], hT g a (nI fr) (nI n) (nI e) tk (nI p) w op bd fl)) rfl trivial ?_
        refine P0.cd (d0 := 1) (as := [.ref 0, .int 0, .int c0]) (rest := []) (r1 := some (.int (if letP (Bt (a 1) fr n) p e 0 c0 then 1 else 0))) (h1 := hT g a (nI fr) (nI n) (nI e) tk (nI p) w op bd fl) (st' := [.int (if letP (Bt (a 1) fr n) p e 0 c0 then 1 else 0)]) GX11_isLetter kX11_isWord_32 rfl ⟨_, _, rfl, rfl, .inl ⟨_, _, _, _, rfl, rfl⟩⟩ (Nat.le_of_ble_eq_true rfl) (Nat.le_of_ble_eq_true rfl) (e_isLetter hT0 hp he 0 (by decide) c0) (Nat.le_of_ble_eq_true rfl) rfl (Nat.le_of_ble_eq_true rfl) rfl ?_
        refine P0.b GX11_isWord 1 (ob := []) (cf' := (if (if letP (Bt (a 1) fr n) p e 0 c0 then 1 else 0) = 0 then 112 else 38, [some (.ref 0), some (.int c0), some (.int c1), some (.int c2), some (.int c3), some (.int c4), some (.int c5), some (.int c6), some (.int c7)], [], hT g a (nI fr) (nI n) (nI e) tk (nI p) w op bd fl)) rfl trivial ?_
        refine P0.ifB (fun h4 => ?_) (fun h4 => ?_)
        · refine P0.b GX11_isWord 1 (ob := []) (cf' := (113, [some (.ref 0), some (.int c0), some (.int c1), some (.int c2), some (.int c3), some (.int c4), some (.int c5), some (.int c6), some (.int c7)], [.int 0], hT g a (nI fr) (nI n) (nI e) tk (nI p) w op bd fl)) rfl trivial ?_
          exact P0.ri (by decide +kernel) rfl (by rfl) ⟨by rw [if_neg (fun z => h4 z.2.2.2.1)], rfl⟩
        · refine P0.b GX11_isWord 3 (ob := []) (cf' := (41, [some (.ref 0), some (.int c0), some (.int c1), some (.int c2), some (.int c3), some (.int c4), some (.int c5), some (.int c6), some (.int c7)], [.int c1, .int 1, .ref 0], hT g a (nI fr) (nI n) (nI e) tk (nI p) w op bd fl)) rfl trivial ?_
          refine P0.cd (d0 := 1) (as := [.ref 0, .int 1, .int c1]) (rest := []) (r1 := some (.int (if letP (Bt (a 1) fr n) p e 1 c1 then 1 else 0))) (h1 := hT g a (nI fr) (nI n) (nI e) tk (nI p) w op bd fl) (st' := [.int (if letP (Bt (a 1) fr n) p e 1 c1 then 1 else 0)]) GX11_isLetter kX11_isWord_41 rfl ⟨_, _, rfl, rfl, .inl ⟨_, _, _, _, rfl, rfl⟩⟩ (Nat.le_of_ble_eq_true rfl) (Nat.le_of_ble_eq_true rfl) (e_isLetter hT0 hp he 1 (by decide) c1) (Nat.le_of_ble_eq_true rfl) rfl (Nat.le_of_ble_eq_true rfl) rfl ?_
          refine P0.b GX11_isWord 1 (ob := []) (cf' := (if (if letP (Bt (a 1) fr n) p e 1 c1 then 1 else 0) = 0 then 112 else 47, [some (.ref 0), some (.int c0), some (.int c1), some (.int c2), some (.int c3), some (.int c4), some (.int c5), some (.int c6), some (.int c7)], [], hT g a (nI fr) (nI n) (nI e) tk (nI p) w op bd fl)) rfl trivial ?_
          refine P0.ifB (fun h5 => ?_) (fun h5 => ?_)
          · refine P0.b GX11_isWord 1 (ob := []) (cf' := (113, [some (.ref 0), some (.int c0), some (.int c1), some (.int c2), some (.int c3), some (.int c4), some (.int c5), some (.int c6), some (.int c7)], [.int 0], hT g a (nI fr) (nI n) (nI e) tk (nI p) w op bd fl)) rfl trivial ?_
            exact P0.ri (by decide +kernel) rfl (by rfl) ⟨by rw [if_neg (fun z => h5 z.2.2.2.2.1)], rfl⟩
          · refine P0.b GX11_isWord 3 (ob := []) (cf' := (50, [some (.ref 0), some (.int c0), some (.int c1), some (.int c2), some (.int c3), some (.int c4), some (.int c5), some (.int c6), some (.int c7)], [.int c2, .int 2, .ref 0], hT g a (nI fr) (nI n) (nI e) tk (nI p) w op bd fl)) rfl trivial ?_
            refine P0.cd (d0 := 1) (as := [.ref 0, .int 2, .int c2]) (rest := []) (r1 := some (.int (if letP (Bt (a 1) fr n) p e 2 c2 then 1 else 0))) (h1 := hT g a (nI fr) (nI n) (nI e) tk (nI p) w op bd fl) (st' := [.int (if letP (Bt (a 1) fr n) p e 2 c2 then 1 else 0)]) GX11_isLetter kX11_isWord_50 rfl ⟨_, _, rfl, rfl, .inl ⟨_, _, _, _, rfl, rfl⟩⟩ (Nat.le_of_ble_eq_true rfl) (Nat.le_of_ble_eq_true rfl) (e_isLetter hT0 hp he 2 (by decide) c2) (Nat.le_of_ble_eq_true rfl) rfl (Nat.le_of_ble_eq_true rfl) rfl ?_
            refine P0.b GX11_isWord 1 (ob := []) (cf' := (if (if letP (Bt (a 1) fr n) p e 2 c2 then 1 else 0) = 0 then 112 else 56, [some (.ref 0), some (.int c0), some (.int c1), some (.int c2), some (.int c3), some (.int c4), some (.int c5), some (.int c6), some (.int c7)], [], hT g a (nI fr) (nI n) (nI e) tk (nI p) w op bd fl)) rfl trivial ?_
            refine P0.ifB (fun h6 => ?_) (fun h6 => ?_)
            · refine P0.b GX11_isWord 1 (ob := []) (cf' := (113, [some (.ref 0), some (.int c0), some (.int c1), some (.int c2), some (.int c3), some (.int c4), some (.int c5), some (.int c6), some (.int c7)], [.int 0], hT g a (nI fr) (nI n) (nI e) tk (nI p) w op bd fl)) rfl trivial ?_
              exact P0.ri (by decide +kernel) rfl (by rfl) ⟨by rw [if_neg (fun z => h6 z.2.2.2.2.2.1)], rfl⟩
            · refine P0.b GX11_isWord 3 (ob := []) (cf' := (60, [some (.ref 0), some (.int c0), some (.int c1), some (.int c2), some (.int c3), some (.int c4), some (.int c5), some (.int c6), some (.int c7)], [.int c3, .int 3, .ref 0], hT g a (nI fr) (nI n) (nI e) tk (nI p) w op bd fl)) rfl trivial ?_
              refine P0.cd (d0 := 1) (as := [.ref 0, .int 3, .int c3]) (rest := []) (r1 := some (.int (if letP (Bt (a 1) fr n) p e 3 c3 then 1 else 0))) (h1 := hT g a (nI fr) (nI n) (nI e) tk (nI p) w op bd fl) (st' := [.int (if letP (Bt (a 1) fr n) p e 3 c3 then 1 else 0)]) GX11_isLetter kX11_isWord_60 rfl ⟨_, _, rfl, rfl, .inl ⟨_, _, _, _, rfl, rfl⟩⟩ (Nat.le_of_ble_eq_true rfl) (Nat.le_of_ble_eq_true rfl) (e_isLetter hT0 hp he 3 (by decide) c3) (Nat.le_of_ble_eq_true rfl) rfl (Nat.le_of_ble_eq_true rfl) rfl ?_
              refine P0.b GX11_isWord 1 (ob := []) (cf' := (if (if letP (Bt (a 1) fr n) p e 3 c3 then 1 else 0) = 0 then 112 else 66, [some (.ref 0), some (.int c0), some (.int c1), some (.int c2), some (.int c3), some (.int c4), some (.int c5), some (.int c6), some (.int c7)], [], hT g a (nI fr) (nI n) (nI e) tk (nI p) w op bd fl)) rfl trivial ?_
              refine P0.ifB (fun h7 => ?_) (fun h7 => ?_)
              · refine P0.b GX11_isWord 1 (ob := []) (cf' := (113, [some (.ref 0), some (.int c0), some (.int c1), some (.int c2), some (.int c3), some (.int c4), some (.int c5), some (.int c6), some (.int c7)], [.int 0], hT g a (nI fr) (nI n) (nI e) tk (nI p) w op bd fl)) rfl trivial ?_
                exact P0.ri (by decide +kernel) rfl (by rfl) ⟨by rw [if_neg (fun z => h7 z.2.2.2.2.2.2.1)], rfl⟩
              · refine P0.b GX11_isWord 3 (ob := []) (cf' := (70, [some (.ref 0), some (.int c0), some (.int c1), some (.int c2), some (.int c3), some (.int c4), some (.int c5), some (.int c6), some (.int c7)], [.int c4, .int 4, .ref 0], hT g a (nI fr) (nI n) (nI e) tk (nI p) w op bd fl)) rfl trivial ?_
                refine P0.cd (d0 := 1) (as := [.ref 0, .int 4, .int c4]) (rest := []) (r1 := some (.int (if letP (Bt (a 1) fr n) p e 4 c4 then 1 else 0))) (h1 := hT g a (nI fr) (nI n) (nI e) tk (nI p) w op bd fl) (st' := [.int (if letP (Bt (a 1) fr n) p e 4 c4 then 1 else 0)]) GX11_isLetter kX11_isWord_70 rfl ⟨_, _, rfl, rfl, .inl ⟨_, _, _, _, rfl, rfl⟩⟩ (Nat.le_of_ble_eq_true rfl) (Nat.le_of_ble_eq_true rfl) (e_isLetter hT0 hp he 4 (by decide) c4) (Nat.le_of_ble_eq_true rfl) rfl (Nat.le_of_ble_eq_true rfl) rfl ?_
                refine P0.b GX11_isWord 1 (ob := []) (cf' := (if (if letP (Bt (a 1) fr n) p e 4 c4 then 1 else 0) = 0 then 112 else 76, [some (.ref 0), some (.int c0), some (.int c1), some (.int c2), some (.int c3), some (.int c4), some (.int c5), some (.int c6), some (.int c7)], [], hT g a (nI fr) (nI n) (nI e) tk (nI p) w op bd fl)) rfl trivial ?_
                refine P0.ifB (fun h8 => ?_) (fun h8 => ?_)
                · refine P0.b GX11_isWord 1 (ob := []) (cf' := (113, [some (.ref 0), some (.int c0), some (.int c1), some (.int c2), some (.int c3), some (.int c4), some (.int c5), some (.int c6), some (.int c7)], [.int 0], hT g a (nI fr) (nI n) (nI e) tk (nI p) w op bd fl)) rfl trivial ?_
                  exact P0.ri (by decide +kernel) rfl (by rfl) ⟨by rw [if_neg (fun z => h8 z.2.2.2.2.2.2.2.1)], rfl⟩
                · refine P0.b GX11_isWord 3 (ob := []) (cf' := (80, [some (.ref 0), some (.int c0), some (.int c1), some (.int c2), some (.int c3), some (.int c4), some (.int c5), some (.int c6), some (.int c7)], [.int c5, .int 5, .ref 0], hT g a (nI fr) (nI n) (nI e) tk (nI p) w op bd fl)) rfl trivial ?_
                  refine P0.cd (d0 := 1) (as := [.ref 0, .int 5, .int c5]) (rest := []) (r1 := some (.int (if letP (Bt (a 1) fr n) p e 5 c5 then 1 else 0))) (h1 := hT g a (nI fr) (nI n) (nI e) tk (nI p) w op bd fl) (st' := [.int (if letP (Bt (a 1) fr n) p e 5 c5 then 1 else 0)]) GX11_isLetter kX11_isWord_80 rfl ⟨_, _, rfl, rfl, .inl ⟨_, _, _, _, rfl, rfl⟩⟩ (Nat.le_of_ble_eq_true rfl) (Nat.le_of_ble_eq_true rfl) (e_isLetter hT0 hp he 5 (by decide) c5) (Nat.le_of_ble_eq_true rfl) rfl (Nat.le_of_ble_eq_true rfl) rfl ?_
                  refine P0.b GX11_isWord 1 (ob := []) (cf' := (if (if letP (Bt (a 1) fr n) p e 5 c5 then 1 else 0) = 0 then 112 else 86, [some (.ref 0), some (.int c0), some (.int c1), some (.int c2), some (.int c3), some (.int c4), some (.int c5), some (.int c6), some (.int c7)], [], hT g a (nI fr) (nI n) (nI e) tk (nI p) w op bd fl)) rfl trivial ?_
                  refine P0.ifB (fun h9 => ?_) (fun h9 => ?_)
                  · refine P0.b GX11_isWord 1 (ob := []) (cf' := (113, [some (.ref 0), some (.int c0), some (.int c1), some (.int c2), some (.int c3), some (.int c4), some (.int c5), some (.int c6), some (.int c7)], [.int 0], hT g a (nI fr) (nI n) (nI e) tk (nI p) w op bd fl)) rfl trivial ?_
                    exact P0.ri (by decide +kernel) rfl (by rfl) ⟨by rw [if_neg (fun z => h9 z.2.2.2.2.2.2.2.2.1)], rfl⟩
                  · refine P0.b GX11_isWord 3 (ob := []) (cf' := (91, [some (.ref 0), some (.int c0), some (.int c1), some (.int c2), some (.int c3), some (.int c4), some (.int c5), some (.int c6), some (.int c7)], [.int c6, .int 6, .ref 0], hT g a (nI fr) (nI n) (nI e) tk (nI p) w op bd fl)) rfl trivial ?_
                    refine P0.cd (d0 := 1) (as := [.ref 0, .int 6, .int c6]) (rest := []) (r1 := some (.int (if letP (Bt (a 1) fr n) p e 6 c6 then 1 else 0))) (h1 := hT g a (nI fr) (nI n) (nI e) tk (nI p) w op bd fl) (st' := [.int (if letP (Bt (a 1) fr n) p e 6 c6 then 1 else 0)]) GX11_isLetter kX11_isWord_91 rfl ⟨_, _, rfl, rfl, .inl ⟨_, _, _, _, rfl, rfl⟩⟩ (Nat.le_of_ble_eq_true rfl) (Nat.le_of_ble_eq_true rfl) (e_isLetter hT0 hp he 6 (by decide) c6) (Nat.le_of_ble_eq_true rfl) rfl (Nat.le_of_ble_eq_true rfl) rfl ?_
                    refine P0.b GX11_isWord 1 (ob := []) (cf' := (if (if letP (Bt (a 1) fr n) p e 6 c6 then 1 else 0) = 0 then 112 else 97, [some (.ref 0), some (.int c0), some (.int c1), some (.int c2), some (.int c3), some (.int c4), some (.int c5), some (.int c6), some (.int c7)], [], hT g a (nI fr) (nI n) (nI e) tk (nI p) w op bd fl)) rfl trivial ?_
                    refine P0.ifB (fun h10 => ?_) (fun h10 => ?_)
                    · refine P0.b GX11_isWord 1 (ob := []) (cf' := (113, [some (.ref 0), some (.int c0), some (.int c1), some (.int c2), some (.int c3), some (.int c4), some (.int c5), some (.int c6), some (.int c7)], [.int 0], hT g a (nI fr) (nI n) (nI e) tk (nI p) w op bd fl)) rfl trivial ?_
                      exact P0.ri (by decide +kernel) rfl (by rfl) ⟨by rw [if_neg (fun z => h10 z.2.2.2.2.2.2.2.2.2.1)], rfl⟩
                    · refine P0.b GX11_isWord 3 (ob := []) (cf' := (102, [some (.ref 0), some (.int c0), some (.int c1), some (.int c2), some (.int c3), some (.int c4), some (.int c5), some (.int c6), some (.int c7)], [.int c7, .int 7, .ref 0], hT g a (nI fr) (nI n) (nI e) tk (nI p) w op bd fl)) rfl trivial ?_
                      refine P0.cd (d0 := 1) (as := [.ref 0, .int 7, .int c7]) (rest := []) (r1 := some (.int (if letP (Bt (a 1) fr n) p e 7 c7 then 1 else 0))) (h1 := hT g a (nI fr) (nI n) (nI e) tk (nI p) w op bd fl) (st' := [.int (if letP (Bt (a 1) fr n) p e 7 c7 then 1 else 0)]) GX11_isLetter kX11_isWord_102 rfl ⟨_, _, rfl, rfl, .inl ⟨_, _, _, _, rfl, rfl⟩⟩ (Nat.le_of_ble_eq_true rfl) (Nat.le_of_ble_eq_true rfl) (e_isLetter hT0 hp he 7 (by decide) c7) (Nat.le_of_ble_eq_true rfl) rfl (Nat.le_of_ble_eq_true rfl) rfl ?_
                      refine P0.b GX11_isWord 1 (ob := []) (cf' := (if (if letP (Bt (a 1) fr n) p e 7 c7 then 1 else 0) = 0 then 112 else 108, [some (.ref 0), some (.int c0), some (.int c1), some (.int c2), some (.int c3), some (.int c4), some (.int c5), some (.int c6), some (.int c7)], [], hT g a (nI fr) (nI n) (nI e) tk (nI p) w op bd fl)) rfl trivial ?_
                      refine P0.ifB (fun h11 => ?_) (fun h11 => ?_)
                      · refine P0.b GX11_isWord 1 (ob := []) (cf' := (113, [some (.ref 0), some (.int c0), some (.int c1), some (.int c2), some (.int c3), some (.int c4), some (.int c5), some (.int c6), some (.int c7)], [.int 0], hT g a (nI fr) (nI n) (nI e) tk (nI p) w op bd fl)) rfl trivial ?_
                        exact P0.ri (by decide +kernel) rfl (by rfl) ⟨by rw [if_neg (fun z => h11 z.2.2.2.2.2.2.2.2.2.2)], rfl⟩
                      · refine P0.b GX11_isWord 2 (ob := []) (cf' := (113, [some (.ref 0), some (.int c0), some (.int c1), some (.int c2), some (.int c3), some (.int c4), some (.int c5), some (.int c6), some (.int c7)], [.int 1], hT g a (nI fr) (nI n) (nI e) tk (nI p) w op bd fl)) rfl trivial ?_
                        exact P0.ri (by decide +kernel) rfl (by rfl) ⟨by rw [if_pos ⟨h1, h2, h3, h4, h5, h6, h7, h8, h9, h10, h11⟩], rfl⟩
    · refine P0.b GX11_isWord 1 (ob := []) (cf' := (113, [some (.ref 0), some (.int c0), some (.int c1), some (.int c2), some (.int c3), some (.int c4), some (.int c5), some (.int c6), some (.int c7)], [.int 0], hT g a (nI fr) (nI n) (nI e) tk (nI p) w op bd fl)) rfl trivial ?_
      exact P0.ri (by decide +kernel) rfl (by rfl) ⟨by rw [if_neg (fun z => h2 z.2.1)], rfl⟩
  · refine P0.b GX11_isWord 1 (ob := []) (cf' := (113, [some (.ref 0), some (.int c0), some (.int c1), some (.int c2), some (.int c3), some (.int c4), some (.int c5), some (.int c6), some (.int c7)], [.int 0], hT g a (nI fr) (nI n) (nI e) tk (nI p) w op bd fl)) rfl trivial ?_
    exact P0.ri (by decide +kernel) rfl (by rfl) ⟨by rw [if_neg (fun z => h1 z.1)], rfl⟩
theorem e_isWord_bad {g : Nat → Int32} {a : Nat → Nat → Int32} {fr n e tk p : Int32} {w : Int64} {op fl : Int32} {c0 c1 c2 c3 c4 c5 c6 c7 : Int32} : P0 2 0 0 mX11_isWord (0, ent 9 [.ref 0, .int c0, .int c1, .int c2, .int c3, .int c4, .int c5, .int c6, .int c7], [], hT g a fr n e tk p w op 1 fl) (fun r h' => r = some (.int 0) ∧ h' = hT g a fr n e tk p w op 1 fl) := by
  refine P0.b GX11_isWord 3 (ob := []) (cf' := (112, [some (.ref 0), some (.int c0), some (.int c1), some (.int c2), some (.int c3), some (.int c4), some (.int c5), some (.int c6), some (.int c7)], [], hT g a fr n e tk p w op 1 fl)) rfl trivial ?_
  refine P0.b GX11_isWord 1 (ob := []) (cf' := (113, [some (.ref 0), some (.int c0), some (.int c1), some (.int c2), some (.int c3), some (.int c4), some (.int c5), some (.int c6), some (.int c7)], [.int 0], hT g a fr n e tk p w op 1 fl)) rfl trivial ?_
  exact P0.ri (by decide +kernel) rfl rfl ⟨rfl, rfl⟩
theorem e_isWord_ok {g : Nat → Int32} {a : Nat → Nat → Int32} {fr n : Nat} (hT0 : TxOK a fr n) {p : Nat} {w : Int64} {op fl : Int32} (hp : p ≤ n) {cs : List Int32} {code : Int32} (hm : (cs, code) ∈ wds) (hl : cs.length ≤ 8) (hz : ∀ i, i < cs.length → ¬ cs.getD i 0 = 0) : P0 2 0 0 mX11_isWord (0, ent 9 [.ref 0, .int (l8 cs 0), .int (l8 cs 1), .int (l8 cs 2), .int (l8 cs 3), .int (l8 cs 4), .int (l8 cs 5), .int (l8 cs 6), .int (l8 cs 7)], [], hT g a (nI fr) (nI n) (nI (en (Bt (a 1) fr n) p)) (kd (Bt (a 1) fr n) p) (nI p) w op 0 fl) (fun r h' => r = some (.int (if sg (Bt (a 1) fr n) p = code then 1 else 0)) ∧ h' = hT g a (nI fr) (nI n) (nI (en (Bt (a 1) fr n) p)) (kd (Bt (a 1) fr n) p) (nI p) w op 0 fl) := by
  have hn := hT0.2.1
  have hen := en_le (f := a 1) (fr := fr) hp
  have h := e_isWord_raw hT0 (g := g) (e := en (Bt (a 1) fr n) p) (p := p) (tk := kd (Bt (a 1) fr n) p) (w := w) (op := op) (bd := 0) (fl := fl) (by omega) (by omega) (l8 cs 0) (l8 cs 1) (l8 cs 2) (l8 cs 3) (l8 cs 4) (l8 cs 5) (l8 cs 6) (l8 cs 7)
  have key : ((0 : Int32) = 0 ∧ kd (Bt (a 1) fr n) p = 1 ∧ ¬ nI p + 8 < nI (en (Bt (a 1) fr n) p) ∧ letP (Bt (a 1) fr n) p (en (Bt (a 1) fr n) p) 0 (l8 cs 0) ∧ letP (Bt (a 1) fr n) p (en (Bt (a 1) fr n) p) 1 (l8 cs 1) ∧ letP (Bt (a 1) fr n) p (en (Bt (a 1) fr n) p) 2 (l8 cs 2) ∧ letP (Bt (a 1) fr n) p (en (Bt (a 1) fr n) p) 3 (l8 cs 3) ∧ letP (Bt (a 1) fr n) p (en (Bt (a 1) fr n) p) 4 (l8 cs 4) ∧ letP (Bt (a 1) fr n) p (en (Bt (a 1) fr n) p) 5 (l8 cs 5) ∧ letP (Bt (a 1) fr n) p (en (Bt (a 1) fr n) p) 6 (l8 cs 6) ∧ letP (Bt (a 1) fr n) p (en (Bt (a 1) fr n) p) 7 (l8 cs 7)) ↔ sg (Bt (a 1) fr n) p = code := by
    rw [← word_iff hm]
    have h8 : (¬ nI p + 8 < nI (en (Bt (a 1) fr n) p)) ↔ en (Bt (a 1) fr n) p ≤ p + 8 := by
      rw [show (8 : Int32) = nI 8 from rfl, nI_add, nI_ltI (by omega) (by omega)]
      omega
    rw [h8]
    constructor
    · rintro ⟨-, h1, h2, g0, g1, g2, g3, g4, g5, g6, g7⟩
      refine ⟨h1, (let_iff h1 hl hz).mp ⟨h2, fun i hi => ?_⟩⟩
      match i, hi with
      | 0, _ => exact g0
      | 1, _ => exact g1
      | 2, _ => exact g2
      | 3, _ => exact g3
      | 4, _ => exact g4
      | 5, _ => exact g5
      | 6, _ => exact g6
      | 7, _ => exact g7
    · rintro ⟨h1, h2⟩
      obtain ⟨g0, g1⟩ := (let_iff h1 hl hz).mpr h2
      exact ⟨rfl, h1, g0, g1 0 (by decide), g1 1 (by decide), g1 2 (by decide), g1 3 (by decide), g1 4 (by decide), g1 5 (by decide), g1 6 (by decide), g1 7 (by decide)⟩
  have ke := if_cg key (1 : Int32) 0
  rw [ke] at h
  exact h
