/-! ===== laid by program (wip/tools) ===== -/
/-- the tape: n bytes that are B's, nothing behind them -/
def RdOK (tp : Nat → Int32) (n : Nat) (B : Nat → Int32) : Prop := n ≤ 160 ∧ (∀ j, j < n → tp j = B j) ∧ ∀ j, n ≤ j → B j = -1
def srt (b : Int32) : Int32 := if isLt b = true then 1 else if isDg b = true then 2 else 3
theorem srt_1 {b : Int32} : srt b = 1 ↔ isLt b = true := by
  unfold srt
  by_cases h : isLt b = true
  · rw [if_pos h]; exact ⟨fun _ => h, fun _ => rfl⟩
  · rw [if_neg h]
    refine ⟨fun z => ?_, fun z => absurd z h⟩
    split at z <;> exact absurd z (by decide)
theorem lt_dg {b : Int32} (h : isLt b = true) : ¬ isDg b = true := by
  intro z
  simp only [isLt, isDg, decide_eq_true_eq] at h z
  exact absurd (Int32.le_trans h.1 z.2) (by decide)
theorem srt_2 {b : Int32} : srt b = 2 ↔ isDg b = true := by
  unfold srt
  by_cases h : isLt b = true
  · rw [if_pos h]; exact ⟨fun z => absurd z (by decide), fun z => absurd z (lt_dg h)⟩
  · rw [if_neg h]
    by_cases h2 : isDg b = true
    · rw [if_pos h2]; exact ⟨fun _ => h2, fun _ => rfl⟩
    · rw [if_neg h2]; exact ⟨fun z => absurd z (by decide), fun z => absurd z h2⟩
theorem srt_3 {b : Int32} (h1 : ¬ isLt b = true) (h2 : ¬ isDg b = true) : srt b = 3 := by unfold srt; rw [if_neg h1, if_neg h2]
theorem srt_lt {b : Int32} (h1 : 97 ≤ b) (h2 : b ≤ 122) : (1 : Int32) = srt b := (srt_1.mpr (by simp only [isLt]; exact decide_eq_true ⟨h1, h2⟩)).symm
theorem srt_dg {b : Int32} (h1 : 48 ≤ b) (h2 : b ≤ 57) : (2 : Int32) = srt b := (srt_2.mpr (by simp only [isDg]; exact decide_eq_true ⟨h1, h2⟩)).symm
theorem srt_no {b : Int32} (h1 : b < 97 ∨ 122 < b) (h2 : b < 48 ∨ 57 < b) : (3 : Int32) = srt b := (srt_3 (by
  simp only [isLt, decide_eq_true_eq]
  rintro ⟨z1, z2⟩
  rcases h1 with h | h
  · exact Int32.not_lt.mpr z1 h
  · exact Int32.not_lt.mpr z2 h) (by
  simp only [isDg, decide_eq_true_eq]
  rintro ⟨z1, z2⟩
  rcases h2 with h | h
  · exact Int32.not_lt.mpr z1 h
  · exact Int32.not_lt.mpr z2 h)).symm
def nmW (B : Nat → Int32) (p e : Nat) : Int32 := if isWd (wq 1) B p e = true then -1 else if isWd (wq 2) B p e = true then -2 else if isWd (wq 3) B p e = true then -3 else if isWd (wq 4) B p e = true then -4 else if isWd (wq 5) B p e = true then -5 else if isWd (wq 6) B p e = true then -6 else -23
def wdW (B : Nat → Int32) (p e : Nat) : Int32 := if nmW B p e = -23 then (if isWd (wq 7) B p e = true then -7 else if isWd (wq 8) B p e = true then -8 else if isWd (wq 9) B p e = true then -9 else if isWd (wq 10) B p e = true then -10 else if isWd (wq 11) B p e = true then -11 else if isWd (wq 12) B p e = true then -12 else -23) else nmW B p e
theorem wds_wq : wds = [(wq 1, -1), (wq 2, -2), (wq 3, -3), (wq 4, -4), (wq 5, -5), (wq 6, -6), (wq 7, -7), (wq 8, -8), (wq 9, -9), (wq 10, -10), (wq 11, -11), (wq 12, -12)] := by decide +kernel
theorem wdW_wC (B : Nat → Int32) (p e : Nat) : wdW B p e = wC B p e := by
  unfold wdW nmW wC
  rw [wds_wq]
  simp only [List.find?]
  cases isWd (wq 1) B p e with
  | true => rfl
  | false =>
  cases isWd (wq 2) B p e with
  | true => rfl
  | false =>
  cases isWd (wq 3) B p e with
  | true => rfl
  | false =>
  cases isWd (wq 4) B p e with
  | true => rfl
  | false =>
  cases isWd (wq 5) B p e with
  | true => rfl
  | false =>
  cases isWd (wq 6) B p e with
  | true => rfl
  | false =>
  cases isWd (wq 7) B p e with
  | true => rfl
  | false =>
  cases isWd (wq 8) B p e with
  | true => rfl
  | false =>
  cases isWd (wq 9) B p e with
  | true => rfl
  | false =>
  cases isWd (wq 10) B p e with
  | true => rfl
  | false =>
  cases isWd (wq 11) B p e with
  | true => rfl
  | false =>
  cases isWd (wq 12) B p e <;> rfl
theorem isWd_cg {cs : List Int32} {B C : Nat → Int32} {p c : Nat} (h : ∀ j, j < c → B (p + j) = C (p + j)) : isWd cs B p (p + c) = isWd cs C p (p + c) := by
  apply Bool.eq_iff_iff.mpr
  rw [isWd_iff, isWd_iff]
  constructor <;> rintro ⟨h1, h2⟩
  · exact ⟨h1, fun i hi => by rw [← h i (by omega)]; exact h2 i hi⟩
  · exact ⟨h1, fun i hi => by rw [h i (by omega)]; exact h2 i hi⟩
theorem wC_cg {B C : Nat → Int32} {p c : Nat} (h : ∀ j, j < c → B (p + j) = C (p + j)) : wC B p (p + c) = wC C p (p + c) := by
  rw [← wdW_wC, ← wdW_wC]
  unfold wdW nmW
  rw [isWd_cg h, isWd_cg h, isWd_cg h, isWd_cg h, isWd_cg h, isWd_cg h, isWd_cg h, isWd_cg h, isWd_cg h, isWd_cg h, isWd_cg h, isWd_cg h]
theorem num_cg {B C : Nat → Int32} {p : Nat} : ∀ {c : Nat}, (∀ j, j < c → B (p + j) = C (p + j)) → num B p c = num C p c
  | 0, _ => rfl
  | c + 1, h => by
    show num B p c * 10 + B (p + c) - 48 = num C p c * 10 + C (p + c) - 48
    rw [num_cg (fun j hj => h j (by omega)), h c (by omega)]
set_option maxHeartbeats 1000000 in
theorem sortOf_n (b : Int32) : P0 0 0 0 mX4_sortOf (0, ent 1 [.int b], [], []) (fun r h' => r = some (.int (srt b)) ∧ h' = []) := by
  refine P0.b GX4_sortOf 3 (ob := []) (cf' := (if b < 97 then 16 else 6, [some (.int b)], [], [])) rfl trivial ?_
  refine P0.if (fun h1 => ?_) (fun h1 => ?_)
  · refine P0.b GX4_sortOf 3 (ob := []) (cf' := (if b < 48 then 32 else 22, [some (.int b)], [], [])) rfl trivial ?_
    refine P0.if (fun h2 => ?_) (fun h2 => ?_)
    · refine P0.b GX4_sortOf 1 (ob := []) (cf' := (33, [some (.int b)], [.int 3], [])) rfl trivial ?_
      exact P0.ri (by decide +kernel) rfl rfl ⟨congrArg (fun x => some (Value.int x)) (srt_no (.inl (h1)) (.inl (h2))), rfl⟩
    · refine P0.b GX4_sortOf 3 (ob := []) (cf' := (if 57 < b then 32 else 28, [some (.int b)], [], [])) rfl trivial ?_
      refine P0.if (fun h3 => ?_) (fun h3 => ?_)
      · refine P0.b GX4_sortOf 1 (ob := []) (cf' := (33, [some (.int b)], [.int 3], [])) rfl trivial ?_
        exact P0.ri (by decide +kernel) rfl rfl ⟨congrArg (fun x => some (Value.int x)) (srt_no (.inl (h1)) (.inr (h3))), rfl⟩
      · refine P0.b GX4_sortOf 2 (ob := []) (cf' := (33, [some (.int b)], [.int 2], [])) rfl trivial ?_
        exact P0.ri (by decide +kernel) rfl rfl ⟨congrArg (fun x => some (Value.int x)) (srt_dg (Int32.not_lt.mp h2) (Int32.not_lt.mp h3)), rfl⟩
  · refine P0.b GX4_sortOf 3 (ob := []) (cf' := (if 122 < b then 16 else 12, [some (.int b)], [], [])) rfl trivial ?_
    refine P0.if (fun h4 => ?_) (fun h4 => ?_)
    · refine P0.b GX4_sortOf 3 (ob := []) (cf' := (if b < 48 then 32 else 22, [some (.int b)], [], [])) rfl trivial ?_
      refine P0.if (fun h5 => ?_) (fun h5 => ?_)
      · refine P0.b GX4_sortOf 1 (ob := []) (cf' := (33, [some (.int b)], [.int 3], [])) rfl trivial ?_
        exact P0.ri (by decide +kernel) rfl rfl ⟨congrArg (fun x => some (Value.int x)) (srt_no (.inr (h4)) (.inl (h5))), rfl⟩
      · refine P0.b GX4_sortOf 3 (ob := []) (cf' := (if 57 < b then 32 else 28, [some (.int b)], [], [])) rfl trivial ?_
        refine P0.if (fun h6 => ?_) (fun h6 => ?_)
        · refine P0.b GX4_sortOf 1 (ob := []) (cf' := (33, [some (.int b)], [.int 3], [])) rfl trivial ?_
          exact P0.ri (by decide +kernel) rfl rfl ⟨congrArg (fun x => some (Value.int x)) (srt_no (.inr (h4)) (.inr (h6))), rfl⟩
        · refine P0.b GX4_sortOf 2 (ob := []) (cf' := (33, [some (.int b)], [.int 2], [])) rfl trivial ?_
          exact P0.ri (by decide +kernel) rfl rfl ⟨congrArg (fun x => some (Value.int x)) (srt_dg (Int32.not_lt.mp h5) (Int32.not_lt.mp h6)), rfl⟩
    · refine P0.b GX4_sortOf 2 (ob := []) (cf' := (33, [some (.int b)], [.int 1], [])) rfl trivial ?_
      exact P0.ri (by decide +kernel) rfl rfl ⟨congrArg (fun x => some (Value.int x)) (srt_lt (Int32.not_lt.mp h1) (Int32.not_lt.mp h4)), rfl⟩
set_option maxHeartbeats 1000000 in
theorem ofByte_n (b : Int32) : P0 0 0 0 mX7_ofByte (0, ent 1 [.int b], [], []) (fun r h' => r = some (.int (sgC b)) ∧ h' = []) := by
  refine P0.b GX7_ofByte 2 (ob := []) (cf' := (swT b 128 [(40, 104), (41, 107), (42, 119), (43, 113), (44, 128), (45, 116), (46, 128), (47, 128), (48, 128), (49, 128), (50, 128), (51, 128), (52, 128), (53, 128), (54, 128), (55, 128), (56, 128), (57, 128), (58, 128), (59, 110), (60, 122), (61, 125)], [some (.int b)], [], [])) rfl trivial ?_
  refine P0.sw (fun h1 => ?_) (fun h1 => ?_)
  · refine P0.b GX7_ofByte 1 (ob := []) (cf' := (106, [some (.int b)], [.int (-13)], [])) rfl trivial ?_
    exact P0.ri (by decide +kernel) rfl rfl ⟨by rw [h1]; rfl, rfl⟩
  · refine P0.sw (fun h2 => ?_) (fun h2 => ?_)
    · refine P0.b GX7_ofByte 1 (ob := []) (cf' := (109, [some (.int b)], [.int (-14)], [])) rfl trivial ?_
      exact P0.ri (by decide +kernel) rfl rfl ⟨by rw [h2]; rfl, rfl⟩
    · refine P0.sw (fun h3 => ?_) (fun h3 => ?_)
      · refine P0.b GX7_ofByte 1 (ob := []) (cf' := (121, [some (.int b)], [.int (-18)], [])) rfl trivial ?_
        exact P0.ri (by decide +kernel) rfl rfl ⟨by rw [h3]; rfl, rfl⟩
      · refine P0.sw (fun h4 => ?_) (fun h4 => ?_)
        · refine P0.b GX7_ofByte 1 (ob := []) (cf' := (115, [some (.int b)], [.int (-16)], [])) rfl trivial ?_
          exact P0.ri (by decide +kernel) rfl rfl ⟨by rw [h4]; rfl, rfl⟩
        · refine P0.sw (fun h5 => ?_) (fun h5 => ?_)
          · refine P0.b GX7_ofByte 1 (ob := []) (cf' := (130, [some (.int b)], [.int (-23)], [])) rfl trivial ?_
            exact P0.ri (by decide +kernel) rfl rfl ⟨by rw [h5]; rfl, rfl⟩
          · refine P0.sw (fun h6 => ?_) (fun h6 => ?_)
            · refine P0.b GX7_ofByte 1 (ob := []) (cf' := (118, [some (.int b)], [.int (-17)], [])) rfl trivial ?_
              exact P0.ri (by decide +kernel) rfl rfl ⟨by rw [h6]; rfl, rfl⟩
            · refine P0.sw (fun h7 => ?_) (fun h7 => ?_)
              · refine P0.b GX7_ofByte 1 (ob := []) (cf' := (130, [some (.int b)], [.int (-23)], [])) rfl trivial ?_
                exact P0.ri (by decide +kernel) rfl rfl ⟨by rw [h7]; rfl, rfl⟩
              · refine P0.sw (fun h8 => ?_) (fun h8 => ?_)
                · refine P0.b GX7_ofByte 1 (ob := []) (cf' := (130, [some (.int b)], [.int (-23)], [])) rfl trivial ?_
                  exact P0.ri (by decide +kernel) rfl rfl ⟨by rw [h8]; rfl, rfl⟩
                · refine P0.sw (fun h9 => ?_) (fun h9 => ?_)
                  · refine P0.b GX7_ofByte 1 (ob := []) (cf' := (130, [some (.int b)], [.int (-23)], [])) rfl trivial ?_
                    exact P0.ri (by decide +kernel) rfl rfl ⟨by rw [h9]; rfl, rfl⟩
                  · refine P0.sw (fun h10 => ?_) (fun h10 => ?_)
                    · refine P0.b GX7_ofByte 1 (ob := []) (cf' := (130, [some (.int b)], [.int (-23)], [])) rfl trivial ?_
                      exact P0.ri (by decide +kernel) rfl rfl ⟨by rw [h10]; rfl, rfl⟩
                    · refine P0.sw (fun h11 => ?_) (fun h11 => ?_)
                      · refine P0.b GX7_ofByte 1 (ob := []) (cf' := (130, [some (.int b)], [.int (-23)], [])) rfl trivial ?_
                        exact P0.ri (by decide +kernel) rfl rfl ⟨by rw [h11]; rfl, rfl⟩
                      · refine P0.sw (fun h12 => ?_) (fun h12 => ?_)
                        · refine P0.b GX7_ofByte 1 (ob := []) (cf' := (130, [some (.int b)], [.int (-23)], [])) rfl trivial ?_
                          exact P0.ri (by decide +kernel) rfl rfl ⟨by rw [h12]; rfl, rfl⟩
                        · refine P0.sw (fun h13 => ?_) (fun h13 => ?_)
                          · refine P0.b GX7_ofByte 1 (ob := []) (cf' := (130, [some (.int b)], [.int (-23)], [])) rfl trivial ?_
                            exact P0.ri (by decide +kernel) rfl rfl ⟨by rw [h13]; rfl, rfl⟩
                          · refine P0.sw (fun h14 => ?_) (fun h14 => ?_)
                            · refine P0.b GX7_ofByte 1 (ob := []) (cf' := (130, [some (.int b)], [.int (-23)], [])) rfl trivial ?_
                              exact P0.ri (by decide +kernel) rfl rfl ⟨by rw [h14]; rfl, rfl⟩
                            · refine P0.sw (fun h15 => ?_) (fun h15 => ?_)
                              · refine P0.b GX7_ofByte 1 (ob := []) (cf' := (130, [some (.int b)], [.int (-23)], [])) rfl trivial ?_
                                exact P0.ri (by decide +kernel) rfl rfl ⟨by rw [h15]; rfl, rfl⟩
                              · refine P0.sw (fun h16 => ?_) (fun h16 => ?_)
                                · refine P0.b GX7_ofByte 1 (ob := []) (cf' := (130, [some (.int b)], [.int (-23)], [])) rfl trivial ?_
                                  exact P0.ri (by decide +kernel) rfl rfl ⟨by rw [h16]; rfl, rfl⟩
                                · refine P0.sw (fun h17 => ?_) (fun h17 => ?_)
                                  · refine P0.b GX7_ofByte 1 (ob := []) (cf' := (130, [some (.int b)], [.int (-23)], [])) rfl trivial ?_
                                    exact P0.ri (by decide +kernel) rfl rfl ⟨by rw [h17]; rfl, rfl⟩
                                  · refine P0.sw (fun h18 => ?_) (fun h18 => ?_)
                                    · refine P0.b GX7_ofByte 1 (ob := []) (cf' := (130, [some (.int b)], [.int (-23)], [])) rfl trivial ?_
                                      exact P0.ri (by decide +kernel) rfl rfl ⟨by rw [h18]; rfl, rfl⟩
                                    · refine P0.sw (fun h19 => ?_) (fun h19 => ?_)
                                      · refine P0.b GX7_ofByte 1 (ob := []) (cf' := (130, [some (.int b)], [.int (-23)], [])) rfl trivial ?_
                                        exact P0.ri (by decide +kernel) rfl rfl ⟨by rw [h19]; rfl, rfl⟩
                                      · refine P0.sw (fun h20 => ?_) (fun h20 => ?_)
                                        · refine P0.b GX7_ofByte 1 (ob := []) (cf' := (112, [some (.int b)], [.int (-15)], [])) rfl trivial ?_
                                          exact P0.ri (by decide +kernel) rfl rfl ⟨by rw [h20]; rfl, rfl⟩
                                        · refine P0.sw (fun h21 => ?_) (fun h21 => ?_)
                                          · refine P0.b GX7_ofByte 1 (ob := []) (cf' := (124, [some (.int b)], [.int (-19)], [])) rfl trivial ?_
                                            exact P0.ri (by decide +kernel) rfl rfl ⟨by rw [h21]; rfl, rfl⟩
                                          · refine P0.sw (fun h22 => ?_) (fun h22 => ?_)
                                            · refine P0.b GX7_ofByte 1 (ob := []) (cf' := (127, [some (.int b)], [.int (-20)], [])) rfl trivial ?_
                                              exact P0.ri (by decide +kernel) rfl rfl ⟨by rw [h22]; rfl, rfl⟩
                                            · show P0 _ _ _ _ (128, _, _, _) _
                                              refine P0.b GX7_ofByte 1 (ob := []) (cf' := (130, [some (.int b)], [.int (-23)], [])) rfl trivial ?_
                                              exact P0.ri (by decide +kernel) rfl rfl ⟨by simp [sgC, h1, h2, h3, h4, h5, h6, h7, h8, h9, h10, h11, h12, h13, h14, h15, h16, h17, h18, h19, h20, h21, h22], rfl⟩
set_option maxHeartbeats 1000000 in
theorem nameB_n {tp : Nat → Int32} {fr c : Nat} (hfc : fr + c ≤ 160) : P0 5 0 0 mX4_nameBetween (0, ent 3 [.ref 0, .int (nI fr), .int (nI (fr + c))], [], [pI 160 tp]) (fun r h' => r = some (.int (nmW tp fr (fr + c))) ∧ h' = [pI 160 tp]) := by
  refine P0.b GX4_nameBetween 4 (ob := []) (cf' := (5, [some (.ref 0), some (.int (nI fr)), some (.int (nI (fr + c)))], [.int (nI (fr + c)), .int (nI fr), .ref 0, .ref (sB + 1)], [pI 160 tp])) rfl trivial ?_
  refine P0.cr (io := [0]) (as := [.ref (sB + 1), .ref 0, .int (nI fr), .int (nI (fr + c))]) (rest := []) (hc := [pI 160 tp]) (hc1 := [pI 160 tp]) (r1 := some (.int (if isWd (wq 1) tp fr ((fr + c)) = true then 1 else 0))) (st' := [.int (if isWd (wq 1) tp fr ((fr + c)) = true then 1 else 0)]) (h' := [pI 160 tp]) (d0 := 4) GX4_stands kX4_nameBetween_5 rfl rfl (Nat.le_of_ble_eq_true rfl) (Nat.le_of_ble_eq_true rfl) rfl ⟨rfl, trivial⟩ (stands_1 hfc) (Nat.le_of_ble_eq_true rfl) rfl (Nat.le_of_ble_eq_true rfl) (Nat.le_of_ble_eq_true rfl) rfl rfl ?_
  refine P0.b GX4_nameBetween 1 (ob := []) (cf' := (if (if isWd (wq 1) tp fr ((fr + c)) = true then 1 else 0) = 0 then 15 else 11, [some (.ref 0), some (.int (nI fr)), some (.int (nI (fr + c)))], [], [pI 160 tp])) rfl trivial ?_
  refine P0.ifB (fun h1 => ?_) (fun h1 => ?_)
  · refine P0.b GX4_nameBetween 4 (ob := []) (cf' := (20, [some (.ref 0), some (.int (nI fr)), some (.int (nI (fr + c)))], [.int (nI (fr + c)), .int (nI fr), .ref 0, .ref (sB + 2)], [pI 160 tp])) rfl trivial ?_
    refine P0.cr (io := [0]) (as := [.ref (sB + 2), .ref 0, .int (nI fr), .int (nI (fr + c))]) (rest := []) (hc := [pI 160 tp]) (hc1 := [pI 160 tp]) (r1 := some (.int (if isWd (wq 2) tp fr ((fr + c)) = true then 1 else 0))) (st' := [.int (if isWd (wq 2) tp fr ((fr + c)) = true then 1 else 0)]) (h' := [pI 160 tp]) (d0 := 4) GX4_stands kX4_nameBetween_20 rfl rfl (Nat.le_of_ble_eq_true rfl) (Nat.le_of_ble_eq_true rfl) rfl ⟨rfl, trivial⟩ (stands_2 hfc) (Nat.le_of_ble_eq_true rfl) rfl (Nat.le_of_ble_eq_true rfl) (Nat.le_of_ble_eq_true rfl) rfl rfl ?_
    refine P0.b GX4_nameBetween 1 (ob := []) (cf' := (if (if isWd (wq 2) tp fr ((fr + c)) = true then 1 else 0) = 0 then 31 else 26, [some (.ref 0), some (.int (nI fr)), some (.int (nI (fr + c)))], [], [pI 160 tp])) rfl trivial ?_
    refine P0.ifB (fun h2 => ?_) (fun h2 => ?_)
    · refine P0.b GX4_nameBetween 4 (ob := []) (cf' := (36, [some (.ref 0), some (.int (nI fr)), some (.int (nI (fr + c)))], [.int (nI (fr + c)), .int (nI fr), .ref 0, .ref (sB + 3)], [pI 160 tp])) rfl trivial ?_
      refine P0.cr (io := [0]) (as := [.ref (sB + 3), .ref 0, .int (nI fr), .int (nI (fr + c))]) (rest := []) (hc := [pI 160 tp]) (hc1 := [pI 160 tp]) (r1 := some (.int (if isWd (wq 3) tp fr ((fr + c)) = true then 1 else 0))) (st' := [.int (if isWd (wq 3) tp fr ((fr + c)) = true then 1 else 0)]) (h' := [pI 160 tp]) (d0 := 4) GX4_stands kX4_nameBetween_36 rfl rfl (Nat.le_of_ble_eq_true rfl) (Nat.le_of_ble_eq_true rfl) rfl ⟨rfl, trivial⟩ (stands_3 hfc) (Nat.le_of_ble_eq_true rfl) rfl (Nat.le_of_ble_eq_true rfl) (Nat.le_of_ble_eq_true rfl) rfl rfl ?_
      refine P0.b GX4_nameBetween 1 (ob := []) (cf' := (if (if isWd (wq 3) tp fr ((fr + c)) = true then 1 else 0) = 0 then 47 else 42, [some (.ref 0), some (.int (nI fr)), some (.int (nI (fr + c)))], [], [pI 160 tp])) rfl trivial ?_
      refine P0.ifB (fun h3 => ?_) (fun h3 => ?_)
      · refine P0.b GX4_nameBetween 4 (ob := []) (cf' := (52, [some (.ref 0), some (.int (nI fr)), some (.int (nI (fr + c)))], [.int (nI (fr + c)), .int (nI fr), .ref 0, .ref (sB + 4)], [pI 160 tp])) rfl trivial ?_
        refine P0.cr (io := [0]) (as := [.ref (sB + 4), .ref 0, .int (nI fr), .int (nI (fr + c))]) (rest := []) (hc := [pI 160 tp]) (hc1 := [pI 160 tp]) (r1 := some (.int (if isWd (wq 4) tp fr ((fr + c)) = true then 1 else 0))) (st' := [.int (if isWd (wq 4) tp fr ((fr + c)) = true then 1 else 0)]) (h' := [pI 160 tp]) (d0 := 4) GX4_stands kX4_nameBetween_52 rfl rfl (Nat.le_of_ble_eq_true rfl) (Nat.le_of_ble_eq_true rfl) rfl ⟨rfl, trivial⟩ (stands_4 hfc) (Nat.le_of_ble_eq_true rfl) rfl (Nat.le_of_ble_eq_true rfl) (Nat.le_of_ble_eq_true rfl) rfl rfl ?_
        refine P0.b GX4_nameBetween 1 (ob := []) (cf' := (if (if isWd (wq 4) tp fr ((fr + c)) = true then 1 else 0) = 0 then 63 else 58, [some (.ref 0), some (.int (nI fr)), some (.int (nI (fr + c)))], [], [pI 160 tp])) rfl trivial ?_
        refine P0.ifB (fun h4 => ?_) (fun h4 => ?_)
        · refine P0.b GX4_nameBetween 4 (ob := []) (cf' := (68, [some (.ref 0), some (.int (nI fr)), some (.int (nI (fr + c)))], [.int (nI (fr + c)), .int (nI fr), .ref 0, .ref (sB + 5)], [pI 160 tp])) rfl trivial ?_
          refine P0.cr (io := [0]) (as := [.ref (sB + 5), .ref 0, .int (nI fr), .int (nI (fr + c))]) (rest := []) (hc := [pI 160 tp]) (hc1 := [pI 160 tp]) (r1 := some (.int (if isWd (wq 5) tp fr ((fr + c)) = true then 1 else 0))) (st' := [.int (if isWd (wq 5) tp fr ((fr + c)) = true then 1 else 0)]) (h' := [pI 160 tp]) (d0 := 4) GX4_stands kX4_nameBetween_68 rfl rfl (Nat.le_of_ble_eq_true rfl) (Nat.le_of_ble_eq_true rfl) rfl ⟨rfl, trivial⟩ (stands_5 hfc) (Nat.le_of_ble_eq_true rfl) rfl (Nat.le_of_ble_eq_true rfl) (Nat.le_of_ble_eq_true rfl) rfl rfl ?_
          refine P0.b GX4_nameBetween 1 (ob := []) (cf' := (if (if isWd (wq 5) tp fr ((fr + c)) = true then 1 else 0) = 0 then 79 else 74, [some (.ref 0), some (.int (nI fr)), some (.int (nI (fr + c)))], [], [pI 160 tp])) rfl trivial ?_
          refine P0.ifB (fun h5 => ?_) (fun h5 => ?_)
          · refine P0.b GX4_nameBetween 4 (ob := []) (cf' := (84, [some (.ref 0), some (.int (nI fr)), some (.int (nI (fr + c)))], [.int (nI (fr + c)), .int (nI fr), .ref 0, .ref (sB + 6)], [pI 160 tp])) rfl trivial ?_
            refine P0.cr (io := [0]) (as := [.ref (sB + 6), .ref 0, .int (nI fr), .int (nI (fr + c))]) (rest := []) (hc := [pI 160 tp]) (hc1 := [pI 160 tp]) (r1 := some (.int (if isWd (wq 6) tp fr ((fr + c)) = true then 1 else 0))) (st' := [.int (if isWd (wq 6) tp fr ((fr + c)) = true then 1 else 0)]) (h' := [pI 160 tp]) (d0 := 4) GX4_stands kX4_nameBetween_84 rfl rfl (Nat.le_of_ble_eq_true rfl) (Nat.le_of_ble_eq_true rfl) rfl ⟨rfl, trivial⟩ (stands_6 hfc) (Nat.le_of_ble_eq_true rfl) rfl (Nat.le_of_ble_eq_true rfl) (Nat.le_of_ble_eq_true rfl) rfl rfl ?_
            refine P0.b GX4_nameBetween 1 (ob := []) (cf' := (if (if isWd (wq 6) tp fr ((fr + c)) = true then 1 else 0) = 0 then 95 else 90, [some (.ref 0), some (.int (nI fr)), some (.int (nI (fr + c)))], [], [pI 160 tp])) rfl trivial ?_
            refine P0.ifB (fun h6 => ?_) (fun h6 => ?_)
            · refine P0.b GX4_nameBetween 1 (ob := []) (cf' := (97, [some (.ref 0), some (.int (nI fr)), some (.int (nI (fr + c)))], [.int (-23)], [pI 160 tp])) rfl trivial ?_
              exact P0.ri (by decide +kernel) rfl rfl ⟨congrArg (fun x => some (Value.int x)) (show _ = nmW tp fr (fr + c) from by unfold nmW; rw [if_neg h1, if_neg h2, if_neg h3, if_neg h4, if_neg h5, if_neg h6]), rfl⟩
            · refine P0.b GX4_nameBetween 2 (ob := []) (cf' := (97, [some (.ref 0), some (.int (nI fr)), some (.int (nI (fr + c)))], [.int (-6)], [pI 160 tp])) rfl trivial ?_
              exact P0.ri (by decide +kernel) rfl rfl ⟨congrArg (fun x => some (Value.int x)) (show _ = nmW tp fr (fr + c) from by unfold nmW; rw [if_neg h1, if_neg h2, if_neg h3, if_neg h4, if_neg h5, if_pos h6]), rfl⟩
          · refine P0.b GX4_nameBetween 2 (ob := []) (cf' := (97, [some (.ref 0), some (.int (nI fr)), some (.int (nI (fr + c)))], [.int (-5)], [pI 160 tp])) rfl trivial ?_
            exact P0.ri (by decide +kernel) rfl rfl ⟨congrArg (fun x => some (Value.int x)) (show _ = nmW tp fr (fr + c) from by unfold nmW; rw [if_neg h1, if_neg h2, if_neg h3, if_neg h4, if_pos h5]), rfl⟩
        · refine P0.b GX4_nameBetween 2 (ob := []) (cf' := (97, [some (.ref 0), some (.int (nI fr)), some (.int (nI (fr + c)))], [.int (-4)], [pI 160 tp])) rfl trivial ?_
          exact P0.ri (by decide +kernel) rfl rfl ⟨congrArg (fun x => some (Value.int x)) (show _ = nmW tp fr (fr + c) from by unfold nmW; rw [if_neg h1, if_neg h2, if_neg h3, if_pos h4]), rfl⟩
      · refine P0.b GX4_nameBetween 2 (ob := []) (cf' := (97, [some (.ref 0), some (.int (nI fr)), some (.int (nI (fr + c)))], [.int (-3)], [pI 160 tp])) rfl trivial ?_
        exact P0.ri (by decide +kernel) rfl rfl ⟨congrArg (fun x => some (Value.int x)) (show _ = nmW tp fr (fr + c) from by unfold nmW; rw [if_neg h1, if_neg h2, if_pos h3]), rfl⟩
    · refine P0.b GX4_nameBetween 2 (ob := []) (cf' := (97, [some (.ref 0), some (.int (nI fr)), some (.int (nI (fr + c)))], [.int (-2)], [pI 160 tp])) rfl trivial ?_
      exact P0.ri (by decide +kernel) rfl rfl ⟨congrArg (fun x => some (Value.int x)) (show _ = nmW tp fr (fr + c) from by unfold nmW; rw [if_neg h1, if_pos h2]), rfl⟩
  · refine P0.b GX4_nameBetween 2 (ob := []) (cf' := (97, [some (.ref 0), some (.int (nI fr)), some (.int (nI (fr + c)))], [.int (-1)], [pI 160 tp])) rfl trivial ?_
    exact P0.ri (by decide +kernel) rfl rfl ⟨congrArg (fun x => some (Value.int x)) (show _ = nmW tp fr (fr + c) from by unfold nmW; rw [if_pos h1]), rfl⟩
set_option maxHeartbeats 1000000 in
theorem wordB_n {tp : Nat → Int32} {fr c : Nat} (hfc : fr + c ≤ 160) : P0 6 0 0 mX4_wordBetween (0, ent 4 [.ref 0, .int (nI fr), .int (nI (fr + c))], [], [pI 160 tp]) (fun r h' => r = some (.int (wC tp fr (fr + c))) ∧ h' = [pI 160 tp]) := by
  refine P0.b GX4_wordBetween 3 (ob := []) (cf' := (3, [some (.ref 0), some (.int (nI fr)), some (.int (nI (fr + c))), none], [.int (nI (fr + c)), .int (nI fr), .ref 0], [pI 160 tp])) rfl trivial ?_
  refine P0.cr (io := [0]) (as := [.ref 0, .int (nI fr), .int (nI (fr + c))]) (rest := []) (hc := [pI 160 tp]) (hc1 := [pI 160 tp]) (r1 := some (.int (nmW tp fr ((fr + c))))) (st' := [.int (nmW tp fr ((fr + c)))]) (h' := [pI 160 tp]) (d0 := 5) GX4_nameBetween kX4_wordBetween_3 rfl rfl (Nat.le_of_ble_eq_true rfl) (Nat.le_of_ble_eq_true rfl) rfl ⟨rfl, trivial⟩ (nameB_n hfc) (Nat.le_of_ble_eq_true rfl) rfl (Nat.le_of_ble_eq_true rfl) (Nat.le_of_ble_eq_true rfl) rfl rfl ?_
  refine P0.b GX4_wordBetween 4 (ob := []) (cf' := (if nmW tp fr ((fr + c)) = -23 then 17 else 13, [some (.ref 0), some (.int (nI fr)), some (.int (nI (fr + c))), some (.int (nmW tp fr ((fr + c))))], [], [pI 160 tp])) rfl trivial ?_
  refine P0.if (fun h1 => ?_) (fun h1 => ?_)
  · refine P0.b GX4_wordBetween 4 (ob := []) (cf' := (22, [some (.ref 0), some (.int (nI fr)), some (.int (nI (fr + c))), some (.int (nmW tp fr ((fr + c))))], [.int (nI (fr + c)), .int (nI fr), .ref 0, .ref (sB + 7)], [pI 160 tp])) rfl trivial ?_
    refine P0.cr (io := [0]) (as := [.ref (sB + 7), .ref 0, .int (nI fr), .int (nI (fr + c))]) (rest := []) (hc := [pI 160 tp]) (hc1 := [pI 160 tp]) (r1 := some (.int (if isWd (wq 7) tp fr ((fr + c)) = true then 1 else 0))) (st' := [.int (if isWd (wq 7) tp fr ((fr + c)) = true then 1 else 0)]) (h' := [pI 160 tp]) (d0 := 4) GX4_stands kX4_wordBetween_22 rfl rfl (Nat.le_of_ble_eq_true rfl) (Nat.le_of_ble_eq_true rfl) rfl ⟨rfl, trivial⟩ (stands_7 hfc) (Nat.le_of_ble_eq_true rfl) rfl (Nat.le_of_ble_eq_true rfl) (Nat.le_of_ble_eq_true rfl) rfl rfl ?_
    refine P0.b GX4_wordBetween 1 (ob := []) (cf' := (if (if isWd (wq 7) tp fr ((fr + c)) = true then 1 else 0) = 0 then 33 else 28, [some (.ref 0), some (.int (nI fr)), some (.int (nI (fr + c))), some (.int (nmW tp fr ((fr + c))))], [], [pI 160 tp])) rfl trivial ?_
    refine P0.ifB (fun h2 => ?_) (fun h2 => ?_)
    · refine P0.b GX4_wordBetween 4 (ob := []) (cf' := (38, [some (.ref 0), some (.int (nI fr)), some (.int (nI (fr + c))), some (.int (nmW tp fr ((fr + c))))], [.int (nI (fr + c)), .int (nI fr), .ref 0, .ref (sB + 8)], [pI 160 tp])) rfl trivial ?_
      refine P0.cr (io := [0]) (as := [.ref (sB + 8), .ref 0, .int (nI fr), .int (nI (fr + c))]) (rest := []) (hc := [pI 160 tp]) (hc1 := [pI 160 tp]) (r1 := some (.int (if isWd (wq 8) tp fr ((fr + c)) = true then 1 else 0))) (st' := [.int (if isWd (wq 8) tp fr ((fr + c)) = true then 1 else 0)]) (h' := [pI 160 tp]) (d0 := 4) GX4_stands kX4_wordBetween_38 rfl rfl (Nat.le_of_ble_eq_true rfl) (Nat.le_of_ble_eq_true rfl) rfl ⟨rfl, trivial⟩ (stands_8 hfc) (Nat.le_of_ble_eq_true rfl) rfl (Nat.le_of_ble_eq_true rfl) (Nat.le_of_ble_eq_true rfl) rfl rfl ?_
      refine P0.b GX4_wordBetween 1 (ob := []) (cf' := (if (if isWd (wq 8) tp fr ((fr + c)) = true then 1 else 0) = 0 then 49 else 44, [some (.ref 0), some (.int (nI fr)), some (.int (nI (fr + c))), some (.int (nmW tp fr ((fr + c))))], [], [pI 160 tp])) rfl trivial ?_
      refine P0.ifB (fun h3 => ?_) (fun h3 => ?_)
      · refine P0.b GX4_wordBetween 4 (ob := []) (cf' := (54, [some (.ref 0), some (.int (nI fr)), some (.int (nI (fr + c))), some (.int (nmW tp fr ((fr + c))))], [.int (nI (fr + c)), .int (nI fr), .ref 0, .ref (sB + 9)], [pI 160 tp])) rfl trivial ?_
        refine P0.cr (io := [0]) (as := [.ref (sB + 9), .ref 0, .int (nI fr), .int (nI (fr + c))]) (rest := []) (hc := [pI 160 tp]) (hc1 := [pI 160 tp]) (r1 := some (.int (if isWd (wq 9) tp fr ((fr + c)) = true then 1 else 0))) (st' := [.int (if isWd (wq 9) tp fr ((fr + c)) = true then 1 else 0)]) (h' := [pI 160 tp]) (d0 := 4) GX4_stands kX4_wordBetween_54 rfl rfl (Nat.le_of_ble_eq_true rfl) (Nat.le_of_ble_eq_true rfl) rfl ⟨rfl, trivial⟩ (stands_9 hfc) (Nat.le_of_ble_eq_true rfl) rfl (Nat.le_of_ble_eq_true rfl) (Nat.le_of_ble_eq_true rfl) rfl rfl ?_
        refine P0.b GX4_wordBetween 1 (ob := []) (cf' := (if (if isWd (wq 9) tp fr ((fr + c)) = true then 1 else 0) = 0 then 65 else 60, [some (.ref 0), some (.int (nI fr)), some (.int (nI (fr + c))), some (.int (nmW tp fr ((fr + c))))], [], [pI 160 tp])) rfl trivial ?_
        refine P0.ifB (fun h4 => ?_) (fun h4 => ?_)
        · refine P0.b GX4_wordBetween 4 (ob := []) (cf' := (70, [some (.ref 0), some (.int (nI fr)), some (.int (nI (fr + c))), some (.int (nmW tp fr ((fr + c))))], [.int (nI (fr + c)), .int (nI fr), .ref 0, .ref (sB + 10)], [pI 160 tp])) rfl trivial ?_
          refine P0.cr (io := [0]) (as := [.ref (sB + 10), .ref 0, .int (nI fr), .int (nI (fr + c))]) (rest := []) (hc := [pI 160 tp]) (hc1 := [pI 160 tp]) (r1 := some (.int (if isWd (wq 10) tp fr ((fr + c)) = true then 1 else 0))) (st' := [.int (if isWd (wq 10) tp fr ((fr + c)) = true then 1 else 0)]) (h' := [pI 160 tp]) (d0 := 4) GX4_stands kX4_wordBetween_70 rfl rfl (Nat.le_of_ble_eq_true rfl) (Nat.le_of_ble_eq_true rfl) rfl ⟨rfl, trivial⟩ (stands_10 hfc) (Nat.le_of_ble_eq_true rfl) rfl (Nat.le_of_ble_eq_true rfl) (Nat.le_of_ble_eq_true rfl) rfl rfl ?_
          refine P0.b GX4_wordBetween 1 (ob := []) (cf' := (if (if isWd (wq 10) tp fr ((fr + c)) = true then 1 else 0) = 0 then 81 else 76, [some (.ref 0), some (.int (nI fr)), some (.int (nI (fr + c))), some (.int (nmW tp fr ((fr + c))))], [], [pI 160 tp])) rfl trivial ?_
          refine P0.ifB (fun h5 => ?_) (fun h5 => ?_)
          · refine P0.b GX4_wordBetween 4 (ob := []) (cf' := (86, [some (.ref 0), some (.int (nI fr)), some (.int (nI (fr + c))), some (.int (nmW tp fr ((fr + c))))], [.int (nI (fr + c)), .int (nI fr), .ref 0, .ref (sB + 11)], [pI 160 tp])) rfl trivial ?_
            refine P0.cr (io := [0]) (as := [.ref (sB + 11), .ref 0, .int (nI fr), .int (nI (fr + c))]) (rest := []) (hc := [pI 160 tp]) (hc1 := [pI 160 tp]) (r1 := some (.int (if isWd (wq 11) tp fr ((fr + c)) = true then 1 else 0))) (st' := [.int (if isWd (wq 11) tp fr ((fr + c)) = true then 1 else 0)]) (h' := [pI 160 tp]) (d0 := 4) GX4_stands kX4_wordBetween_86 rfl rfl (Nat.le_of_ble_eq_true rfl) (Nat.le_of_ble_eq_true rfl) rfl ⟨rfl, trivial⟩ (stands_11 hfc) (Nat.le_of_ble_eq_true rfl) rfl (Nat.le_of_ble_eq_true rfl) (Nat.le_of_ble_eq_true rfl) rfl rfl ?_
            refine P0.b GX4_wordBetween 1 (ob := []) (cf' := (if (if isWd (wq 11) tp fr ((fr + c)) = true then 1 else 0) = 0 then 97 else 92, [some (.ref 0), some (.int (nI fr)), some (.int (nI (fr + c))), some (.int (nmW tp fr ((fr + c))))], [], [pI 160 tp])) rfl trivial ?_
            refine P0.ifB (fun h6 => ?_) (fun h6 => ?_)
            · refine P0.b GX4_wordBetween 4 (ob := []) (cf' := (102, [some (.ref 0), some (.int (nI fr)), some (.int (nI (fr + c))), some (.int (nmW tp fr ((fr + c))))], [.int (nI (fr + c)), .int (nI fr), .ref 0, .ref (sB + 12)], [pI 160 tp])) rfl trivial ?_
              refine P0.cr (io := [0]) (as := [.ref (sB + 12), .ref 0, .int (nI fr), .int (nI (fr + c))]) (rest := []) (hc := [pI 160 tp]) (hc1 := [pI 160 tp]) (r1 := some (.int (if isWd (wq 12) tp fr ((fr + c)) = true then 1 else 0))) (st' := [.int (if isWd (wq 12) tp fr ((fr + c)) = true then 1 else 0)]) (h' := [pI 160 tp]) (d0 := 4) GX4_stands kX4_wordBetween_102 rfl rfl (Nat.le_of_ble_eq_true rfl) (Nat.le_of_ble_eq_true rfl) rfl ⟨rfl, trivial⟩ (stands_12 hfc) (Nat.le_of_ble_eq_true rfl) rfl (Nat.le_of_ble_eq_true rfl) (Nat.le_of_ble_eq_true rfl) rfl rfl ?_
              refine P0.b GX4_wordBetween 1 (ob := []) (cf' := (if (if isWd (wq 12) tp fr ((fr + c)) = true then 1 else 0) = 0 then 113 else 108, [some (.ref 0), some (.int (nI fr)), some (.int (nI (fr + c))), some (.int (nmW tp fr ((fr + c))))], [], [pI 160 tp])) rfl trivial ?_
              refine P0.ifB (fun h7 => ?_) (fun h7 => ?_)
              · refine P0.b GX4_wordBetween 1 (ob := []) (cf' := (115, [some (.ref 0), some (.int (nI fr)), some (.int (nI (fr + c))), some (.int (nmW tp fr ((fr + c))))], [.int (-23)], [pI 160 tp])) rfl trivial ?_
                exact P0.ri (by decide +kernel) rfl rfl ⟨congrArg (fun x => some (Value.int x)) (show _ = wC tp fr (fr + c) from by rw [← wdW_wC]; unfold wdW; rw [if_pos h1, if_neg h2, if_neg h3, if_neg h4, if_neg h5, if_neg h6, if_neg h7]), rfl⟩
              · refine P0.b GX4_wordBetween 2 (ob := []) (cf' := (115, [some (.ref 0), some (.int (nI fr)), some (.int (nI (fr + c))), some (.int (nmW tp fr ((fr + c))))], [.int (-12)], [pI 160 tp])) rfl trivial ?_
                exact P0.ri (by decide +kernel) rfl rfl ⟨congrArg (fun x => some (Value.int x)) (show _ = wC tp fr (fr + c) from by rw [← wdW_wC]; unfold wdW; rw [if_pos h1, if_neg h2, if_neg h3, if_neg h4, if_neg h5, if_neg h6, if_pos h7]), rfl⟩
            · refine P0.b GX4_wordBetween 2 (ob := []) (cf' := (115, [some (.ref 0), some (.int (nI fr)), some (.int (nI (fr + c))), some (.int (nmW tp fr ((fr + c))))], [.int (-11)], [pI 160 tp])) rfl trivial ?_
              exact P0.ri (by decide +kernel) rfl rfl ⟨congrArg (fun x => some (Value.int x)) (show _ = wC tp fr (fr + c) from by rw [← wdW_wC]; unfold wdW; rw [if_pos h1, if_neg h2, if_neg h3, if_neg h4, if_neg h5, if_pos h6]), rfl⟩
          · refine P0.b GX4_wordBetween 2 (ob := []) (cf' := (115, [some (.ref 0), some (.int (nI fr)), some (.int (nI (fr + c))), some (.int (nmW tp fr ((fr + c))))], [.int (-10)], [pI 160 tp])) rfl trivial ?_
            exact P0.ri (by decide +kernel) rfl rfl ⟨congrArg (fun x => some (Value.int x)) (show _ = wC tp fr (fr + c) from by rw [← wdW_wC]; unfold wdW; rw [if_pos h1, if_neg h2, if_neg h3, if_neg h4, if_pos h5]), rfl⟩
        · refine P0.b GX4_wordBetween 2 (ob := []) (cf' := (115, [some (.ref 0), some (.int (nI fr)), some (.int (nI (fr + c))), some (.int (nmW tp fr ((fr + c))))], [.int (-9)], [pI 160 tp])) rfl trivial ?_
          exact P0.ri (by decide +kernel) rfl rfl ⟨congrArg (fun x => some (Value.int x)) (show _ = wC tp fr (fr + c) from by rw [← wdW_wC]; unfold wdW; rw [if_pos h1, if_neg h2, if_neg h3, if_pos h4]), rfl⟩
      · refine P0.b GX4_wordBetween 2 (ob := []) (cf' := (115, [some (.ref 0), some (.int (nI fr)), some (.int (nI (fr + c))), some (.int (nmW tp fr ((fr + c))))], [.int (-8)], [pI 160 tp])) rfl trivial ?_
        exact P0.ri (by decide +kernel) rfl rfl ⟨congrArg (fun x => some (Value.int x)) (show _ = wC tp fr (fr + c) from by rw [← wdW_wC]; unfold wdW; rw [if_pos h1, if_neg h2, if_pos h3]), rfl⟩
    · refine P0.b GX4_wordBetween 2 (ob := []) (cf' := (115, [some (.ref 0), some (.int (nI fr)), some (.int (nI (fr + c))), some (.int (nmW tp fr ((fr + c))))], [.int (-7)], [pI 160 tp])) rfl trivial ?_
      exact P0.ri (by decide +kernel) rfl rfl ⟨congrArg (fun x => some (Value.int x)) (show _ = wC tp fr (fr + c) from by rw [← wdW_wC]; unfold wdW; rw [if_pos h1, if_pos h2]), rfl⟩
  · refine P0.b GX4_wordBetween 2 (ob := []) (cf' := (115, [some (.ref 0), some (.int (nI fr)), some (.int (nI (fr + c))), some (.int (nmW tp fr ((fr + c))))], [.int (nmW tp fr ((fr + c)))], [pI 160 tp])) rfl trivial ?_
    exact P0.ri (by decide +kernel) rfl rfl ⟨congrArg (fun x => some (Value.int x)) (show _ = wC tp fr (fr + c) from by rw [← wdW_wC]; unfold wdW; rw [if_neg h1]), rfl⟩
theorem nb_gt {fr c : Nat} (hfc : fr + c ≤ 160) (h : 4 < nI c) : 4 < c := (nI_ltI (a := 4) (by decide) (by omega)).mp h
theorem nb_le {fr c : Nat} (hfc : fr + c ≤ 160) (h : nI c ≤ 4) : ¬ 4 < c := Nat.not_lt.mpr ((nI_leI (b := 4) (by omega) (by decide)).mp h)
set_option maxHeartbeats 1000000 in
theorem numB_n {tp : Nat → Int32} {fr c : Nat} (hfc : fr + c ≤ 160) : P0 1 0 0 mX4_numberBetween (0, ent 5 [.ref 0, .int (nI fr), .int (nI (fr + c))], [], [pI 160 tp]) (fun r h' => r = some (.int (if 4 < c then -23 else num tp fr c)) ∧ h' = [pI 160 tp]) := by
  refine P0.b GX4_numberBetween 5 (ob := []) (cf' := (if (nI (fr + c)) - (nI fr) ≤ 4 then 10 else 7, [some (.ref 0), some (.int (nI fr)), some (.int (nI (fr + c))), none, none], [], [pI 160 tp])) rfl trivial ?_
  rw [show (nI (fr + c)) - (nI fr) = nI c from nI_subA fr c]
  refine P0.if (fun h1 => ?_) (fun h1 => ?_)
  · refine P0.b GX4_numberBetween 4 (ob := []) (cf' := (15, [some (.ref 0), some (.int (nI fr)), some (.int (nI (fr + c))), some (.int 0), some (.int (nI fr))], [], [pI 160 tp])) rfl trivial ?_
    refine P0.eqcf (cf := (15, [some (.ref 0), some (.int (nI fr)), some (.int (nI (fr + c))), some (.int 0), some (.int (nI fr + 0))], [], [pI 160 tp])) (by rw [Int32.add_zero]; try rfl) ?_
    refine P0.loopI (N := c) (fun k v => v = num tp fr k) (fun x172 v172 => (15, [some (.ref 0), some (.int (nI fr)), some (.int (nI (fr + c))), some (.int v172), some (.int (nI fr + x172))], [], [pI 160 tp])) (fun i172 v172 hi172 hI172 hk172 => ?_) (fun v172 hI172 => ?_) 0 (0 : Int32) nI_0.symm rfl
    · rw [show nI fr + nI i172 = nI (fr + i172) from nI_add _ _]
      show P0 _ _ _ _ (15, [some (.ref 0), some (.int (nI fr)), some (.int (nI (fr + c))), some (.int v172), some (.int (nI (fr + i172)))], [], [pI 160 tp]) _
      refine P0.b GX4_numberBetween 3 (ob := []) (cf' := (if nI (fr + c) ≤ nI (fr + i172) then 42 else 21, [some (.ref 0), some (.int (nI fr)), some (.int (nI (fr + c))), some (.int v172), some (.int (nI (fr + i172)))], [], [pI 160 tp])) rfl trivial ?_
      rw [if_neg (show ¬ (nI (fr + c) ≤ nI (fr + i172)) from nI_ge (by omega) (by omega))]
      refine P0.b GX4_numberBetween 5 (ob := []) (cf' := (28, [some (.ref 0), some (.int (nI fr)), some (.int (nI (fr + c))), some (.int v172), some (.int (nI (fr + i172)))], [.int (nI (fr + i172)), .ref 0, .int (v172 * 10)], [pI 160 tp])) rfl trivial ?_
      refine P0.cr (io := [0]) (as := [.ref 0, .int (nI (fr + i172))]) (rest := [.int (v172 * 10)]) (hc := [pI 160 tp]) (hc1 := [pI 160 tp]) (r1 := some (.int (tp (fr + i172)))) (st' := [.int (tp (fr + i172)), .int (v172 * 10)]) (h' := [pI 160 tp]) (d0 := 0) GX5_at kX4_numberBetween_28 rfl rfl (Nat.le_of_ble_eq_true rfl) (Nat.le_of_ble_eq_true rfl) rfl ⟨rfl, trivial⟩ (at_in (n := 160) (by decide) tp (k := (fr + i172)) (by omega)) (Nat.zero_le _) rfl (Nat.le_of_ble_eq_true rfl) (Nat.le_of_ble_eq_true rfl) rfl rfl ?_
      refine P0.b GX4_numberBetween 6 (ob := []) (cf' := (15, [some (.ref 0), some (.int (nI fr)), some (.int (nI (fr + c))), some (.int (((v172 * 10) + (tp (fr + i172))) - 48)), some (.int ((nI (fr + i172)) + 1))], [], [pI 160 tp])) rfl trivial ?_
      rw [show (nI (fr + i172)) + 1 = nI ((fr + i172) + 1) from nI_add _ _]
      rw [show nI ((fr + i172) + 1) = nI fr + nI (i172 + 1) from (nI_add fr (i172 + 1)).symm]
      exact hk172 (nI (i172 + 1)) (((v172 * 10) + (tp (fr + i172))) - 48) rfl (by rw [hI172]; rfl)
    · rw [show nI fr + nI c = nI (fr + c) from nI_add _ _]
      show P0 _ _ _ _ (15, [some (.ref 0), some (.int (nI fr)), some (.int (nI (fr + c))), some (.int v172), some (.int (nI (fr + c)))], [], [pI 160 tp]) _
      refine P0.b GX4_numberBetween 3 (ob := []) (cf' := (if nI (fr + c) ≤ nI (fr + c) then 42 else 21, [some (.ref 0), some (.int (nI fr)), some (.int (nI (fr + c))), some (.int v172), some (.int (nI (fr + c)))], [], [pI 160 tp])) rfl trivial ?_
      rw [if_pos (show nI (fr + c) ≤ nI (fr + c) from Int32.le_refl _)]
      refine P0.b GX4_numberBetween 1 (ob := []) (cf' := (43, [some (.ref 0), some (.int (nI fr)), some (.int (nI (fr + c))), some (.int v172), some (.int (nI (fr + c)))], [.int v172], [pI 160 tp])) rfl trivial ?_
      exact P0.ri (by decide +kernel) rfl rfl ⟨by rw [hI172, if_neg (nb_le hfc h1)], rfl⟩
  · refine P0.b GX4_numberBetween 1 (ob := []) (cf' := (9, [some (.ref 0), some (.int (nI fr)), some (.int (nI (fr + c))), none, none], [.int (-23)], [pI 160 tp])) rfl trivial ?_
    exact P0.ri (by decide +kernel) rfl rfl ⟨by rw [if_pos (nb_gt hfc (Int32.not_le.mp h1))], rfl⟩
def sgB (tp : Nat → Int32) (fr c : Nat) : Int32 := if srt (tp fr) = 1 then wC tp fr (fr + c) else if srt (tp fr) = 2 then (if 4 < c then -23 else num tp fr c) else sgC (tp fr)
set_option maxHeartbeats 1000000 in
theorem signB_n {tp : Nat → Int32} {fr c : Nat} (hfc : fr + c ≤ 160) (hc : 0 < c) : P0 7 0 0 mX4_signBetween (0, ent 4 [.ref 0, .int (nI fr), .int (nI (fr + c))], [], [pI 160 tp]) (fun r h' => r = some (.int (sgB tp fr c)) ∧ h' = [pI 160 tp]) := by
  refine P0.b GX4_signBetween 2 (ob := []) (cf' := (2, [some (.ref 0), some (.int (nI fr)), some (.int (nI (fr + c))), none], [.int (nI fr), .ref 0], [pI 160 tp])) rfl trivial ?_
  refine P0.cr (io := [0]) (as := [.ref 0, .int (nI fr)]) (rest := []) (hc := [pI 160 tp]) (hc1 := [pI 160 tp]) (r1 := some (.int (tp fr))) (st' := [.int (tp fr)]) (h' := [pI 160 tp]) (d0 := 0) GX5_at kX4_signBetween_2 rfl rfl (Nat.le_of_ble_eq_true rfl) (Nat.le_of_ble_eq_true rfl) rfl ⟨rfl, trivial⟩ (at_in (n := 160) (by decide) tp (k := fr) (by omega)) (Nat.zero_le _) rfl (Nat.le_of_ble_eq_true rfl) (Nat.le_of_ble_eq_true rfl) rfl rfl ?_
  refine P0.b GX4_signBetween 2 (ob := []) (cf' := (7, [some (.ref 0), some (.int (nI fr)), some (.int (nI (fr + c))), some (.int (tp fr))], [.int (tp fr)], [pI 160 tp])) rfl trivial ?_
  refine P0.cr (io := []) (as := [.int (tp fr)]) (rest := []) (hc := []) (hc1 := []) (r1 := some (.int (srt (tp fr)))) (st' := [.int (srt (tp fr))]) (h' := [pI 160 tp]) (d0 := 0) GX4_sortOf kX4_signBetween_7 rfl rfl (Nat.le_of_ble_eq_true rfl) (Nat.le_of_ble_eq_true rfl) rfl trivial (sortOf_n (tp fr)) (Nat.le_of_ble_eq_true rfl) rfl (Nat.le_of_ble_eq_true rfl) (Nat.le_of_ble_eq_true rfl) rfl rfl ?_
  refine P0.b GX4_signBetween 1 (ob := []) (cf' := (swT (srt (tp fr)) 50 [(1, 36), (2, 43)], [some (.ref 0), some (.int (nI fr)), some (.int (nI (fr + c))), some (.int (tp fr))], [], [pI 160 tp])) rfl trivial ?_
  refine P0.sw (fun h1 => ?_) (fun h1 => ?_)
  · refine P0.b GX4_signBetween 3 (ob := []) (cf' := (39, [some (.ref 0), some (.int (nI fr)), some (.int (nI (fr + c))), some (.int (tp fr))], [.int (nI (fr + c)), .int (nI fr), .ref 0], [pI 160 tp])) rfl trivial ?_
    refine P0.cr (io := [0]) (as := [.ref 0, .int (nI fr), .int (nI (fr + c))]) (rest := []) (hc := [pI 160 tp]) (hc1 := [pI 160 tp]) (r1 := some (.int (wC tp fr ((fr + c))))) (st' := [.int (wC tp fr ((fr + c)))]) (h' := [pI 160 tp]) (d0 := 6) GX4_wordBetween kX4_signBetween_39 rfl rfl (Nat.le_of_ble_eq_true rfl) (Nat.le_of_ble_eq_true rfl) rfl ⟨rfl, trivial⟩ (wordB_n hfc) (Nat.le_of_ble_eq_true rfl) rfl (Nat.le_of_ble_eq_true rfl) (Nat.le_of_ble_eq_true rfl) rfl rfl ?_
    exact P0.ri (by decide +kernel) rfl rfl ⟨by unfold sgB; rw [if_pos h1], rfl⟩
  · refine P0.sw (fun h2 => ?_) (fun h2 => ?_)
    · refine P0.b GX4_signBetween 3 (ob := []) (cf' := (46, [some (.ref 0), some (.int (nI fr)), some (.int (nI (fr + c))), some (.int (tp fr))], [.int (nI (fr + c)), .int (nI fr), .ref 0], [pI 160 tp])) rfl trivial ?_
      refine P0.cr (io := [0]) (as := [.ref 0, .int (nI fr), .int (nI (fr + c))]) (rest := []) (hc := [pI 160 tp]) (hc1 := [pI 160 tp]) (r1 := some (.int (if 4 < c then -23 else num tp fr c))) (st' := [.int (if 4 < c then -23 else num tp fr c)]) (h' := [pI 160 tp]) (d0 := 1) GX4_numberBetween kX4_signBetween_46 rfl rfl (Nat.le_of_ble_eq_true rfl) (Nat.le_of_ble_eq_true rfl) rfl ⟨rfl, trivial⟩ (numB_n hfc) (Nat.le_of_ble_eq_true rfl) rfl (Nat.le_of_ble_eq_true rfl) (Nat.le_of_ble_eq_true rfl) rfl rfl ?_
      exact P0.ri (by decide +kernel) rfl rfl ⟨by unfold sgB; rw [if_neg h1, if_pos h2], rfl⟩
    · show P0 _ _ _ _ (50, _, _, _) _
      refine P0.b GX4_signBetween 1 (ob := []) (cf' := (51, [some (.ref 0), some (.int (nI fr)), some (.int (nI (fr + c))), some (.int (tp fr))], [.int (tp fr)], [pI 160 tp])) rfl trivial ?_
      refine P0.cr (io := []) (as := [.int (tp fr)]) (rest := []) (hc := []) (hc1 := []) (r1 := some (.int (sgC (tp fr)))) (st' := [.int (sgC (tp fr))]) (h' := [pI 160 tp]) (d0 := 0) GX7_ofByte kX4_signBetween_51 rfl rfl (Nat.le_of_ble_eq_true rfl) (Nat.le_of_ble_eq_true rfl) rfl trivial (ofByte_n (tp fr)) (Nat.le_of_ble_eq_true rfl) rfl (Nat.le_of_ble_eq_true rfl) (Nat.le_of_ble_eq_true rfl) rfl rfl ?_
      exact P0.ri (by decide +kernel) rfl rfl ⟨by unfold sgB; rw [if_neg h1, if_neg h2], rfl⟩
