/-! ===== a text that was read is made ===== -/
theorem textInit_n {z : Nat} {f ed : Nat → Int32} : P0 0 0 0 mX8_init (0, ent 3 [.ref 0, .ref 1, .ref 2], [], [pO 5 [.null, .null], pI z f, pI 3 ed]) (fun r h' => r = none ∧ h' = [pO 5 [.ref 1, .ref 2], pI z f, pI 3 ed]) := by
  refine P0.b GX8_init 2 (ob := []) (cf' := (4, [some (.ref 0), some (.ref 1), some (.ref 2)], [], [pO 5 [.null, .null], pI z f, pI 3 ed])) rfl trivial ?_
  refine P0.b GX8_init 3 (ob := []) (cf' := (9, [some (.ref 0), some (.ref 1), some (.ref 2)], [], [pO 5 [.ref 1, .null], pI z f, pI 3 ed])) rfl trivial ?_
  refine P0.b GX8_init 3 (ob := []) (cf' := (14, [some (.ref 0), some (.ref 1), some (.ref 2)], [], [pO 5 [.ref 1, .ref 2], pI z f, pI 3 ed])) rfl trivial ?_
  exact P0.rv (by decide +kernel) rfl ⟨rfl, rfl⟩
theorem mx_z (z : Nat) (hz : z ≤ 160) : (if (0 : Int32) < nI z then nI z else 0) = nI z := by
  by_cases h : (0 : Int32) < nI z
  · rw [if_pos h]
  · rw [if_neg h]
    rcases Nat.eq_zero_or_pos z with e | e
    · rw [e]; rfl
    · exact absurd ((nI_ltI (a := 0) (by decide) (by omega)).mpr e) h
theorem textRead_n {sgn pl cd ed : Nat → Int32} {po : Int32} {z : Nat} (hz : z ≤ 160) : P0 1 3 165 mX4_textRead (0, ent 1 [.ref 0], [], [pO 3 [.ref 1, .ref 2, .ref 3, .ref 4, .int po, .int (nI z)], pI 161 sgn, pI 161 pl, pI 160 cd, pI 3 ed]) (fun r h' => ∃ f' : Nat → Int32, (∀ i, i < z → f' i = cd i) ∧ r = some (.ref 5) ∧ h' = [pO 3 [.ref 1, .ref 2, .ref 3, .ref 4, .int po, .int (nI z)], pI 161 sgn, pI 161 pl, pI 160 cd, pI 3 ed, pO 5 [.ref 6, .ref 7], pI z f', pI 3 ed]) := by
  refine P0.blk (mc := 2) (ms := 163) (dc := 1) (ds := 2) GX4_textRead 1 (ob := [wfP [some (.ref 0)] [] [pO 3 [.ref 1, .ref 2, .ref 3, .ref 4, .int po, .int (nI z)], pI 161 sgn, pI 161 pl, pI 160 cd, pI 3 ed]]) (cf' := (3, [some (.ref 0)], [.ref 5], [pO 3 [.ref 1, .ref 2, .ref 3, .ref 4, .int po, .int (nI z)], pI 161 sgn, pI 161 pl, pI 160 cd, pI 3 ed, pO 5 [.null, .null]])) rfl ⟨wfP_of rfl, trivial⟩ ?_
  refine P0.b GX4_textRead 7 (ob := []) (cf' := (16, [some (.ref 0)], [.int (if (0 : Int32) < nI z then nI z else 0), .ref 3, .ref 5, .ref 5], [pO 3 [.ref 1, .ref 2, .ref 3, .ref 4, .int po, .int (nI z)], pI 161 sgn, pI 161 pl, pI 160 cd, pI 3 ed, pO 5 [.null, .null]])) rfl trivial ?_
  rw [mx_z z hz]
  refine P0.call (d := 0) (mc1 := 1) (ms1 := 160) (mc2 := 1) (ms2 := 3) (io := [3]) (as := [.ref 0, .int (nI z)]) (rest := [.ref 5, .ref 5]) (hc := [pI 160 cd]) GJ7_copyOf_59c91 kX4_textRead_16 rfl rfl (Nat.le_of_ble_eq_true rfl) (Nat.le_of_ble_eq_true rfl) rfl (Nat.le_of_ble_eq_true rfl) rfl (cellsOk.get (h := [pO 3 [.ref 1, .ref 2, .ref 3, .ref 4, .int po, .int (nI z)], pI 161 sgn, pI 161 pl, pI 160 cd, pI 3 ed, pO 5 [.null, .null]]) (f := rnI [3]) (is := [3]) (cs := [pI 160 cd]) ⟨rfl, trivial⟩).2 (copyOf_n hz) (fun r hc' q => ?_) (fun r hc' q _ => ?_)
  · obtain ⟨f', _, _, rfl⟩ := q
    exact ⟨Nat.le_of_ble_eq_true rfl, Nat.le_of_ble_eq_true rfl, .inr (wfP_of rfl)⟩
  · obtain ⟨f', hf, rfl, rfl⟩ := q
    show P0 1 1 3 mX4_textRead (19, [some (.ref 0)], [.ref 6, .ref 5, .ref 5], [pO 3 [.ref 1, .ref 2, .ref 3, .ref 4, .int po, .int (nI z)], pI 161 sgn, pI 161 pl, pI 160 cd, pI 3 ed, pO 5 [.null, .null], pI z f']) _
    refine P0.b GX4_textRead 2 (ob := []) (cf' := (23, [some (.ref 0)], [.ref 4, .ref 6, .ref 5, .ref 5], [pO 3 [.ref 1, .ref 2, .ref 3, .ref 4, .int po, .int (nI z)], pI 161 sgn, pI 161 pl, pI 160 cd, pI 3 ed, pO 5 [.null, .null], pI z f'])) rfl trivial ?_
    refine P0.blk (mc := 0) (ms := 0) (dc := 1) (ds := 3) GX4_textRead 1 (ob := [wfP [some (.ref 0)] [.ref 4, .ref 6, .ref 5, .ref 5] [pO 3 [.ref 1, .ref 2, .ref 3, .ref 4, .int po, .int (nI z)], pI 161 sgn, pI 161 pl, pI 160 cd, pI 3 ed, pO 5 [.null, .null], pI z f'], 3 ≤ 100000]) (cf' := (26, [some (.ref 0)], [.ref 7, .ref 6, .ref 5, .ref 5], [pO 3 [.ref 1, .ref 2, .ref 3, .ref 4, .int po, .int (nI z)], pI 161 sgn, pI 161 pl, pI 160 cd, pI 3 ed, pO 5 [.null, .null], pI z f', pI 3 ed])) rfl ⟨wfP_of rfl, by decide, trivial⟩ ?_
    refine P0.b GX4_textRead 1 (ob := []) (cf' := (29, [some (.ref 0)], [.ref 7, .ref 6, .ref 5, .ref 5], [pO 3 [.ref 1, .ref 2, .ref 3, .ref 4, .int po, .int (nI z)], pI 161 sgn, pI 161 pl, pI 160 cd, pI 3 ed, pO 5 [.null, .null], pI z f', pI 3 ed])) rfl trivial ?_
    refine P0.cr (io := [5, 6, 7]) (as := [.ref 0, .ref 1, .ref 2]) (rest := [.ref 5]) (hc := [pO 5 [.null, .null], pI z f', pI 3 ed]) (hc1 := [pO 5 [.ref 1, .ref 2], pI z f', pI 3 ed]) (r1 := none) (st' := [.ref 5]) (h' := [pO 3 [.ref 1, .ref 2, .ref 3, .ref 4, .int po, .int (nI z)], pI 161 sgn, pI 161 pl, pI 160 cd, pI 3 ed, pO 5 [.ref 6, .ref 7], pI z f', pI 3 ed]) (d0 := 0) GX8_init kX4_textRead_29 rfl ⟨_, _, rfl, rfl⟩ (Nat.le_of_ble_eq_true rfl) (Nat.le_of_ble_eq_true rfl) rfl ⟨rfl, rfl, rfl, trivial⟩ textInit_n (Nat.zero_le _) rfl (Nat.le_of_ble_eq_true rfl) (Nat.le_of_ble_eq_true rfl) rfl rfl ?_
    exact P0.ra (by decide +kernel) rfl (.inl ⟨_, rfl⟩) (.inr ⟨_, rfl⟩) ⟨f', hf, rfl, rfl⟩
