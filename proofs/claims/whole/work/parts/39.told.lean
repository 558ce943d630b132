/-! ===== laid by program (wip/tools) ===== -/
theorem in_yes {v lo hi : Int32} (h : lo ≤ v ∧ v ≤ hi) : P0 0 0 0 mX11_in (0, ent 6 [.long v.toInt64, .long lo.toInt64, .long hi.toInt64], [], []) (fun r h' => r = some (.int 1) ∧ h' = []) := by
  have := e_in32 v lo hi
  rw [if_pos h] at this
  exact this
theorem in_no {v lo hi : Int32} (h : ¬ (lo ≤ v ∧ v ≤ hi)) : P0 0 0 0 mX11_in (0, ent 6 [.long v.toInt64, .long lo.toInt64, .long hi.toInt64], [], []) (fun r h' => r = some (.int 0) ∧ h' = []) := by
  have := e_in32 v lo hi
  rw [if_neg h] at this
  exact this
theorem ix2 (x : Int32) : x + 2 - 2 = x := by rw [Int32.sub_eq_add_neg, Int32.add_assoc, show (2 : Int32) + -2 = 0 by decide, Int32.add_zero]
theorem ix3 (x : Int32) : x + 3 - 2 = x + 1 := by rw [Int32.sub_eq_add_neg, Int32.add_assoc, show (3 : Int32) + -2 = 1 by decide]
theorem ix4 (x : Int32) : x + 4 - 2 = x + 2 := by rw [Int32.sub_eq_add_neg, Int32.add_assoc, show (4 : Int32) + -2 = 2 by decide]
theorem wit_nI {g : Nat → Int32} {m : Nat} (hm : g 11 = nI m) (hm6 : m ≤ 6) {x : Int32} (h : 0 ≤ x ∧ x ≤ g 11 - 1) : ∃ i, i < m ∧ x = nI i := by
  obtain ⟨j, hj, rfl⟩ := nI_of (Int32.not_lt.mpr h.1)
  have h2 := h.2
  rw [hm] at h2
  by_cases e : m = 0
  · rw [e] at h2
    exact absurd (Int32.le_trans h.1 h2) (by decide)
  · obtain ⟨k, rfl⟩ : ∃ k, m = k + 1 := ⟨m - 1, by omega⟩
    rw [nI_pred] at h2
    exact ⟨j, by have := (nI_leI hj (by omega)).mp h2; omega, rfl⟩
theorem wok {g : Nat → Int32} {a : Nat → Nat → Int32} {m : Nat} (hm : g 11 = nI m) (hm6 : m ≤ 6) (hW : ∀ i, i < m → WOK a (nI i)) {x : Int32} (h : 0 ≤ x ∧ x ≤ g 11 - 1) : WOK a x := by
  obtain ⟨i, hi, rfl⟩ := wit_nI hm hm6 h
  exact hW i hi
theorem wok2 {g : Nat → Int32} {m : Nat} (hm : g 11 = nI m) (hm6 : m ≤ 6) {x : Int32} (h : 0 ≤ x ∧ x ≤ g 11 - 1) : vp_in (3 * x + 2) 18 := by
  obtain ⟨i, hi, rfl⟩ := wit_nI hm hm6 h
  exact row_in (j := 2) (by omega) (by decide)
theorem st_nI {x : Int32} (h : 0 ≤ x ∧ x ≤ 5) : ∃ i, i < 6 ∧ x = nI i := by
  obtain ⟨j, hj, rfl⟩ := nI_of (Int32.not_lt.mpr h.1)
  exact ⟨j, by have := (nI_leI hj (by decide)).mp (show nI j ≤ nI 5 from h.2); omega, rfl⟩
theorem st_in {x : Int32} (h : 0 ≤ x ∧ x ≤ 5) : vp_in x 6 := by
  obtain ⟨i, hi, rfl⟩ := st_nI h
  exact nI_vp hi (by decide)
set_option maxHeartbeats 1000000 in
theorem isOf_0 {g z : Nat → Int32} {w : Int64} {a b : Nat → Nat → Int32} (of : Int32) : P0 2 0 0 mX11_isOf (0, ent 3 [.ref 0, .int 0, .int of], [], hC g z w a b) (fun r h' => r = some (.int 1) ∧ h' = hC g z w a b) := by
  refine P0.b GX11_isOf 2 (ob := []) (cf' := (if (0 : Int32) = 0 then 27 else 4, [some (.ref 0), some (.int 0), some (.int of)], [], hC g z w a b)) rfl trivial ?_
  rw [if_pos (show ((0 : Int32) = 0) from by decide)]
  refine P0.b GX11_isOf 2 (ob := []) (cf' := (32, [some (.ref 0), some (.int 0), some (.int of)], [.int 1], hC g z w a b)) rfl trivial ?_
  exact P0.ri (by decide +kernel) rfl (by rfl) ⟨(rfl), rfl⟩
set_option maxHeartbeats 1000000 in
theorem isOf_1 {g z : Nat → Int32} {w : Int64} {a b : Nat → Nat → Int32} (of : Int32) : P0 2 0 0 mX11_isOf (0, ent 3 [.ref 0, .int 1, .int of], [], hC g z w a b) (fun r h' => r = some (.int (if 0 ≤ of ∧ of ≤ 5 then 1 else 0)) ∧ h' = hC g z w a b) := by
  refine P0.b GX11_isOf 2 (ob := []) (cf' := (if (1 : Int32) = 0 then 27 else 4, [some (.ref 0), some (.int 1), some (.int of)], [], hC g z w a b)) rfl trivial ?_
  rw [if_neg (show ¬ ((1 : Int32) = 0) from by decide)]
  refine P0.b GX11_isOf 3 (ob := []) (cf' := (if (1 : Int32) = 1 then 9 else 19, [some (.ref 0), some (.int 1), some (.int of)], [], hC g z w a b)) rfl trivial ?_
  rw [if_pos (show ((1 : Int32) = 1) from by decide)]
  refine P0.b GX11_isOf 1 (ob := []) (cf' := (10, [some (.ref 0), some (.int 1), some (.int of)], [.int of], hC g z w a b)) rfl trivial ?_
  refine P0.cr (io := []) (as := [.int of]) (rest := []) (hc := []) (hc1 := []) (r1 := some (.int (if 0 ≤ of ∧ of ≤ 5 then 1 else 0))) (st' := [.int (if 0 ≤ of ∧ of ≤ 5 then 1 else 0)]) (h' := hC g z w a b) (d0 := 1) GX11_isStep kX11_isOf_10 rfl rfl (Nat.le_of_ble_eq_true rfl) (Nat.le_of_ble_eq_true rfl) rfl trivial (e_X11_isStep of) (Nat.le_of_ble_eq_true rfl) rfl (Nat.le_of_ble_eq_true rfl) (Nat.le_of_ble_eq_true rfl) rfl rfl ?_
  refine P0.b GX11_isOf 1 (ob := []) (cf' := (if (if 0 ≤ of ∧ of ≤ 5 then 1 else 0) = 0 then 31 else 16, [some (.ref 0), some (.int 1), some (.int of)], [], hC g z w a b)) rfl trivial ?_
  refine P0.ifB (fun h1 => ?_) (fun h1 => ?_)
  · refine P0.b GX11_isOf 1 (ob := []) (cf' := (32, [some (.ref 0), some (.int 1), some (.int of)], [.int 0], hC g z w a b)) rfl trivial ?_
    exact P0.ri (by decide +kernel) rfl (by rfl) ⟨(by rw [if_neg h1]), rfl⟩
  · refine P0.b GX11_isOf 3 (ob := []) (cf' := (32, [some (.ref 0), some (.int 1), some (.int of)], [.int 1], hC g z w a b)) rfl trivial ?_
    exact P0.ri (by decide +kernel) rfl (by rfl) ⟨(by rw [if_pos h1]), rfl⟩
set_option maxHeartbeats 1000000 in
theorem isOf_2 {g z : Nat → Int32} {w : Int64} {a b : Nat → Nat → Int32} (of : Int32) : P0 2 0 0 mX11_isOf (0, ent 3 [.ref 0, .int 2, .int of], [], hC g z w a b) (fun r h' => r = some (.int (if 0 ≤ of ∧ of ≤ g 11 - 1 then 1 else 0)) ∧ h' = hC g z w a b) := by
  refine P0.b GX11_isOf 2 (ob := []) (cf' := (if (2 : Int32) = 0 then 27 else 4, [some (.ref 0), some (.int 2), some (.int of)], [], hC g z w a b)) rfl trivial ?_
  rw [if_neg (show ¬ ((2 : Int32) = 0) from by decide)]
  refine P0.b GX11_isOf 3 (ob := []) (cf' := (if (2 : Int32) = 1 then 9 else 19, [some (.ref 0), some (.int 2), some (.int of)], [], hC g z w a b)) rfl trivial ?_
  rw [if_neg (show ¬ ((2 : Int32) = 1) from by decide)]
  refine P0.b GX11_isOf 2 (ob := []) (cf' := (21, [some (.ref 0), some (.int 2), some (.int of)], [.int of, .ref 0], hC g z w a b)) rfl trivial ?_
  refine P0.cd (d0 := 1) (as := [.ref 0, .int of]) (rest := []) (r1 := some (.int (if 0 ≤ of ∧ of ≤ g 11 - 1 then 1 else 0))) (h1 := hC g z w a b) (st' := [.int (if 0 ≤ of ∧ of ≤ g 11 - 1 then 1 else 0)]) GX11_isWitness kX11_isOf_21 rfl ⟨_, _, rfl, rfl, .inl ⟨_, _, _, _, rfl, rfl⟩⟩ (Nat.le_of_ble_eq_true rfl) (Nat.le_of_ble_eq_true rfl) (e_X11_isWitness (g := mx g z) (w := w) (a := my a b) of) (Nat.le_of_ble_eq_true rfl) rfl (Nat.le_of_ble_eq_true rfl) rfl ?_
  refine P0.b GX11_isOf 1 (ob := []) (cf' := (if (if 0 ≤ of ∧ of ≤ g 11 - 1 then 1 else 0) = 0 then 31 else 27, [some (.ref 0), some (.int 2), some (.int of)], [], hC g z w a b)) rfl trivial ?_
  refine P0.ifB (fun h1 => ?_) (fun h1 => ?_)
  · refine P0.b GX11_isOf 1 (ob := []) (cf' := (32, [some (.ref 0), some (.int 2), some (.int of)], [.int 0], hC g z w a b)) rfl trivial ?_
    exact P0.ri (by decide +kernel) rfl (by rfl) ⟨(by rw [if_neg h1]), rfl⟩
  · refine P0.b GX11_isOf 2 (ob := []) (cf' := (32, [some (.ref 0), some (.int 2), some (.int of)], [.int 1], hC g z w a b)) rfl trivial ?_
    exact P0.ri (by decide +kernel) rfl (by rfl) ⟨(by rw [if_pos h1]), rfl⟩
set_option maxHeartbeats 1000000 in
theorem isOf_3 {g z : Nat → Int32} {w : Int64} {a b : Nat → Nat → Int32} (of : Int32) : P0 2 0 0 mX11_isOf (0, ent 3 [.ref 0, .int 3, .int of], [], hC g z w a b) (fun r h' => r = some (.int (if 0 ≤ of ∧ of ≤ g 11 - 1 then 1 else 0)) ∧ h' = hC g z w a b) := by
  refine P0.b GX11_isOf 2 (ob := []) (cf' := (if (3 : Int32) = 0 then 27 else 4, [some (.ref 0), some (.int 3), some (.int of)], [], hC g z w a b)) rfl trivial ?_
  rw [if_neg (show ¬ ((3 : Int32) = 0) from by decide)]
  refine P0.b GX11_isOf 3 (ob := []) (cf' := (if (3 : Int32) = 1 then 9 else 19, [some (.ref 0), some (.int 3), some (.int of)], [], hC g z w a b)) rfl trivial ?_
  rw [if_neg (show ¬ ((3 : Int32) = 1) from by decide)]
  refine P0.b GX11_isOf 2 (ob := []) (cf' := (21, [some (.ref 0), some (.int 3), some (.int of)], [.int of, .ref 0], hC g z w a b)) rfl trivial ?_
  refine P0.cd (d0 := 1) (as := [.ref 0, .int of]) (rest := []) (r1 := some (.int (if 0 ≤ of ∧ of ≤ g 11 - 1 then 1 else 0))) (h1 := hC g z w a b) (st' := [.int (if 0 ≤ of ∧ of ≤ g 11 - 1 then 1 else 0)]) GX11_isWitness kX11_isOf_21 rfl ⟨_, _, rfl, rfl, .inl ⟨_, _, _, _, rfl, rfl⟩⟩ (Nat.le_of_ble_eq_true rfl) (Nat.le_of_ble_eq_true rfl) (e_X11_isWitness (g := mx g z) (w := w) (a := my a b) of) (Nat.le_of_ble_eq_true rfl) rfl (Nat.le_of_ble_eq_true rfl) rfl ?_
  refine P0.b GX11_isOf 1 (ob := []) (cf' := (if (if 0 ≤ of ∧ of ≤ g 11 - 1 then 1 else 0) = 0 then 31 else 27, [some (.ref 0), some (.int 3), some (.int of)], [], hC g z w a b)) rfl trivial ?_
  refine P0.ifB (fun h1 => ?_) (fun h1 => ?_)
  · refine P0.b GX11_isOf 1 (ob := []) (cf' := (32, [some (.ref 0), some (.int 3), some (.int of)], [.int 0], hC g z w a b)) rfl trivial ?_
    exact P0.ri (by decide +kernel) rfl (by rfl) ⟨(by rw [if_neg h1]), rfl⟩
  · refine P0.b GX11_isOf 2 (ob := []) (cf' := (32, [some (.ref 0), some (.int 3), some (.int of)], [.int 1], hC g z w a b)) rfl trivial ?_
    exact P0.ri (by decide +kernel) rfl (by rfl) ⟨(by rw [if_pos h1]), rfl⟩
set_option maxHeartbeats 1000000 in
theorem isOf_4 {g z : Nat → Int32} {w : Int64} {a b : Nat → Nat → Int32} (of : Int32) : P0 2 0 0 mX11_isOf (0, ent 3 [.ref 0, .int 4, .int of], [], hC g z w a b) (fun r h' => r = some (.int (if 0 ≤ of ∧ of ≤ g 11 - 1 then 1 else 0)) ∧ h' = hC g z w a b) := by
  refine P0.b GX11_isOf 2 (ob := []) (cf' := (if (4 : Int32) = 0 then 27 else 4, [some (.ref 0), some (.int 4), some (.int of)], [], hC g z w a b)) rfl trivial ?_
  rw [if_neg (show ¬ ((4 : Int32) = 0) from by decide)]
  refine P0.b GX11_isOf 3 (ob := []) (cf' := (if (4 : Int32) = 1 then 9 else 19, [some (.ref 0), some (.int 4), some (.int of)], [], hC g z w a b)) rfl trivial ?_
  rw [if_neg (show ¬ ((4 : Int32) = 1) from by decide)]
  refine P0.b GX11_isOf 2 (ob := []) (cf' := (21, [some (.ref 0), some (.int 4), some (.int of)], [.int of, .ref 0], hC g z w a b)) rfl trivial ?_
  refine P0.cd (d0 := 1) (as := [.ref 0, .int of]) (rest := []) (r1 := some (.int (if 0 ≤ of ∧ of ≤ g 11 - 1 then 1 else 0))) (h1 := hC g z w a b) (st' := [.int (if 0 ≤ of ∧ of ≤ g 11 - 1 then 1 else 0)]) GX11_isWitness kX11_isOf_21 rfl ⟨_, _, rfl, rfl, .inl ⟨_, _, _, _, rfl, rfl⟩⟩ (Nat.le_of_ble_eq_true rfl) (Nat.le_of_ble_eq_true rfl) (e_X11_isWitness (g := mx g z) (w := w) (a := my a b) of) (Nat.le_of_ble_eq_true rfl) rfl (Nat.le_of_ble_eq_true rfl) rfl ?_
  refine P0.b GX11_isOf 1 (ob := []) (cf' := (if (if 0 ≤ of ∧ of ≤ g 11 - 1 then 1 else 0) = 0 then 31 else 27, [some (.ref 0), some (.int 4), some (.int of)], [], hC g z w a b)) rfl trivial ?_
  refine P0.ifB (fun h1 => ?_) (fun h1 => ?_)
  · refine P0.b GX11_isOf 1 (ob := []) (cf' := (32, [some (.ref 0), some (.int 4), some (.int of)], [.int 0], hC g z w a b)) rfl trivial ?_
    exact P0.ri (by decide +kernel) rfl (by rfl) ⟨(by rw [if_neg h1]), rfl⟩
  · refine P0.b GX11_isOf 2 (ob := []) (cf' := (32, [some (.ref 0), some (.int 4), some (.int of)], [.int 1], hC g z w a b)) rfl trivial ?_
    exact P0.ri (by decide +kernel) rfl (by rfl) ⟨(by rw [if_pos h1]), rfl⟩
set_option maxHeartbeats 1000000 in
theorem isOf_5 {g z : Nat → Int32} {w : Int64} {a b : Nat → Nat → Int32} (of : Int32) : P0 2 0 0 mX11_isOf (0, ent 3 [.ref 0, .int 5, .int of], [], hC g z w a b) (fun r h' => r = some (.int (if 0 ≤ of ∧ of ≤ g 11 - 1 then 1 else 0)) ∧ h' = hC g z w a b) := by
  refine P0.b GX11_isOf 2 (ob := []) (cf' := (if (5 : Int32) = 0 then 27 else 4, [some (.ref 0), some (.int 5), some (.int of)], [], hC g z w a b)) rfl trivial ?_
  rw [if_neg (show ¬ ((5 : Int32) = 0) from by decide)]
  refine P0.b GX11_isOf 3 (ob := []) (cf' := (if (5 : Int32) = 1 then 9 else 19, [some (.ref 0), some (.int 5), some (.int of)], [], hC g z w a b)) rfl trivial ?_
  rw [if_neg (show ¬ ((5 : Int32) = 1) from by decide)]
  refine P0.b GX11_isOf 2 (ob := []) (cf' := (21, [some (.ref 0), some (.int 5), some (.int of)], [.int of, .ref 0], hC g z w a b)) rfl trivial ?_
  refine P0.cd (d0 := 1) (as := [.ref 0, .int of]) (rest := []) (r1 := some (.int (if 0 ≤ of ∧ of ≤ g 11 - 1 then 1 else 0))) (h1 := hC g z w a b) (st' := [.int (if 0 ≤ of ∧ of ≤ g 11 - 1 then 1 else 0)]) GX11_isWitness kX11_isOf_21 rfl ⟨_, _, rfl, rfl, .inl ⟨_, _, _, _, rfl, rfl⟩⟩ (Nat.le_of_ble_eq_true rfl) (Nat.le_of_ble_eq_true rfl) (e_X11_isWitness (g := mx g z) (w := w) (a := my a b) of) (Nat.le_of_ble_eq_true rfl) rfl (Nat.le_of_ble_eq_true rfl) rfl ?_
  refine P0.b GX11_isOf 1 (ob := []) (cf' := (if (if 0 ≤ of ∧ of ≤ g 11 - 1 then 1 else 0) = 0 then 31 else 27, [some (.ref 0), some (.int 5), some (.int of)], [], hC g z w a b)) rfl trivial ?_
  refine P0.ifB (fun h1 => ?_) (fun h1 => ?_)
  · refine P0.b GX11_isOf 1 (ob := []) (cf' := (32, [some (.ref 0), some (.int 5), some (.int of)], [.int 0], hC g z w a b)) rfl trivial ?_
    exact P0.ri (by decide +kernel) rfl (by rfl) ⟨(by rw [if_neg h1]), rfl⟩
  · refine P0.b GX11_isOf 2 (ob := []) (cf' := (32, [some (.ref 0), some (.int 5), some (.int of)], [.int 1], hC g z w a b)) rfl trivial ?_
    exact P0.ri (by decide +kernel) rfl (by rfl) ⟨(by rw [if_pos h1]), rfl⟩
set_option maxHeartbeats 1000000 in
theorem isOf_6 {g z : Nat → Int32} {w : Int64} {a b : Nat → Nat → Int32} (of : Int32) : P0 2 0 0 mX11_isOf (0, ent 3 [.ref 0, .int 6, .int of], [], hC g z w a b) (fun r h' => r = some (.int (if 0 ≤ of ∧ of ≤ g 11 - 1 then 1 else 0)) ∧ h' = hC g z w a b) := by
  refine P0.b GX11_isOf 2 (ob := []) (cf' := (if (6 : Int32) = 0 then 27 else 4, [some (.ref 0), some (.int 6), some (.int of)], [], hC g z w a b)) rfl trivial ?_
  rw [if_neg (show ¬ ((6 : Int32) = 0) from by decide)]
  refine P0.b GX11_isOf 3 (ob := []) (cf' := (if (6 : Int32) = 1 then 9 else 19, [some (.ref 0), some (.int 6), some (.int of)], [], hC g z w a b)) rfl trivial ?_
  rw [if_neg (show ¬ ((6 : Int32) = 1) from by decide)]
  refine P0.b GX11_isOf 2 (ob := []) (cf' := (21, [some (.ref 0), some (.int 6), some (.int of)], [.int of, .ref 0], hC g z w a b)) rfl trivial ?_
  refine P0.cd (d0 := 1) (as := [.ref 0, .int of]) (rest := []) (r1 := some (.int (if 0 ≤ of ∧ of ≤ g 11 - 1 then 1 else 0))) (h1 := hC g z w a b) (st' := [.int (if 0 ≤ of ∧ of ≤ g 11 - 1 then 1 else 0)]) GX11_isWitness kX11_isOf_21 rfl ⟨_, _, rfl, rfl, .inl ⟨_, _, _, _, rfl, rfl⟩⟩ (Nat.le_of_ble_eq_true rfl) (Nat.le_of_ble_eq_true rfl) (e_X11_isWitness (g := mx g z) (w := w) (a := my a b) of) (Nat.le_of_ble_eq_true rfl) rfl (Nat.le_of_ble_eq_true rfl) rfl ?_
  refine P0.b GX11_isOf 1 (ob := []) (cf' := (if (if 0 ≤ of ∧ of ≤ g 11 - 1 then 1 else 0) = 0 then 31 else 27, [some (.ref 0), some (.int 6), some (.int of)], [], hC g z w a b)) rfl trivial ?_
  refine P0.ifB (fun h1 => ?_) (fun h1 => ?_)
  · refine P0.b GX11_isOf 1 (ob := []) (cf' := (32, [some (.ref 0), some (.int 6), some (.int of)], [.int 0], hC g z w a b)) rfl trivial ?_
    exact P0.ri (by decide +kernel) rfl (by rfl) ⟨(by rw [if_neg h1]), rfl⟩
  · refine P0.b GX11_isOf 2 (ob := []) (cf' := (32, [some (.ref 0), some (.int 6), some (.int of)], [.int 1], hC g z w a b)) rfl trivial ?_
    exact P0.ri (by decide +kernel) rfl (by rfl) ⟨(by rw [if_pos h1]), rfl⟩
set_option maxHeartbeats 1000000 in
theorem isOf_10 {g z : Nat → Int32} {w : Int64} {a b : Nat → Nat → Int32} (of : Int32) : P0 2 0 0 mX11_isOf (0, ent 3 [.ref 0, .int 10, .int of], [], hC g z w a b) (fun r h' => r = some (.int (if 0 ≤ of ∧ of ≤ g 11 - 1 then 1 else 0)) ∧ h' = hC g z w a b) := by
  refine P0.b GX11_isOf 2 (ob := []) (cf' := (if (10 : Int32) = 0 then 27 else 4, [some (.ref 0), some (.int 10), some (.int of)], [], hC g z w a b)) rfl trivial ?_
  rw [if_neg (show ¬ ((10 : Int32) = 0) from by decide)]
  refine P0.b GX11_isOf 3 (ob := []) (cf' := (if (10 : Int32) = 1 then 9 else 19, [some (.ref 0), some (.int 10), some (.int of)], [], hC g z w a b)) rfl trivial ?_
  rw [if_neg (show ¬ ((10 : Int32) = 1) from by decide)]
  refine P0.b GX11_isOf 2 (ob := []) (cf' := (21, [some (.ref 0), some (.int 10), some (.int of)], [.int of, .ref 0], hC g z w a b)) rfl trivial ?_
  refine P0.cd (d0 := 1) (as := [.ref 0, .int of]) (rest := []) (r1 := some (.int (if 0 ≤ of ∧ of ≤ g 11 - 1 then 1 else 0))) (h1 := hC g z w a b) (st' := [.int (if 0 ≤ of ∧ of ≤ g 11 - 1 then 1 else 0)]) GX11_isWitness kX11_isOf_21 rfl ⟨_, _, rfl, rfl, .inl ⟨_, _, _, _, rfl, rfl⟩⟩ (Nat.le_of_ble_eq_true rfl) (Nat.le_of_ble_eq_true rfl) (e_X11_isWitness (g := mx g z) (w := w) (a := my a b) of) (Nat.le_of_ble_eq_true rfl) rfl (Nat.le_of_ble_eq_true rfl) rfl ?_
  refine P0.b GX11_isOf 1 (ob := []) (cf' := (if (if 0 ≤ of ∧ of ≤ g 11 - 1 then 1 else 0) = 0 then 31 else 27, [some (.ref 0), some (.int 10), some (.int of)], [], hC g z w a b)) rfl trivial ?_
  refine P0.ifB (fun h1 => ?_) (fun h1 => ?_)
  · refine P0.b GX11_isOf 1 (ob := []) (cf' := (32, [some (.ref 0), some (.int 10), some (.int of)], [.int 0], hC g z w a b)) rfl trivial ?_
    exact P0.ri (by decide +kernel) rfl (by rfl) ⟨(by rw [if_neg h1]), rfl⟩
  · refine P0.b GX11_isOf 2 (ob := []) (cf' := (32, [some (.ref 0), some (.int 10), some (.int of)], [.int 1], hC g z w a b)) rfl trivial ?_
    exact P0.ri (by decide +kernel) rfl (by rfl) ⟨(by rw [if_pos h1]), rfl⟩
set_option maxHeartbeats 1000000 in
theorem isOf_11 {g z : Nat → Int32} {w : Int64} {a b : Nat → Nat → Int32} (of : Int32) : P0 2 0 0 mX11_isOf (0, ent 3 [.ref 0, .int 11, .int of], [], hC g z w a b) (fun r h' => r = some (.int (if 0 ≤ of ∧ of ≤ g 11 - 1 then 1 else 0)) ∧ h' = hC g z w a b) := by
  refine P0.b GX11_isOf 2 (ob := []) (cf' := (if (11 : Int32) = 0 then 27 else 4, [some (.ref 0), some (.int 11), some (.int of)], [], hC g z w a b)) rfl trivial ?_
  rw [if_neg (show ¬ ((11 : Int32) = 0) from by decide)]
  refine P0.b GX11_isOf 3 (ob := []) (cf' := (if (11 : Int32) = 1 then 9 else 19, [some (.ref 0), some (.int 11), some (.int of)], [], hC g z w a b)) rfl trivial ?_
  rw [if_neg (show ¬ ((11 : Int32) = 1) from by decide)]
  refine P0.b GX11_isOf 2 (ob := []) (cf' := (21, [some (.ref 0), some (.int 11), some (.int of)], [.int of, .ref 0], hC g z w a b)) rfl trivial ?_
  refine P0.cd (d0 := 1) (as := [.ref 0, .int of]) (rest := []) (r1 := some (.int (if 0 ≤ of ∧ of ≤ g 11 - 1 then 1 else 0))) (h1 := hC g z w a b) (st' := [.int (if 0 ≤ of ∧ of ≤ g 11 - 1 then 1 else 0)]) GX11_isWitness kX11_isOf_21 rfl ⟨_, _, rfl, rfl, .inl ⟨_, _, _, _, rfl, rfl⟩⟩ (Nat.le_of_ble_eq_true rfl) (Nat.le_of_ble_eq_true rfl) (e_X11_isWitness (g := mx g z) (w := w) (a := my a b) of) (Nat.le_of_ble_eq_true rfl) rfl (Nat.le_of_ble_eq_true rfl) rfl ?_
  refine P0.b GX11_isOf 1 (ob := []) (cf' := (if (if 0 ≤ of ∧ of ≤ g 11 - 1 then 1 else 0) = 0 then 31 else 27, [some (.ref 0), some (.int 11), some (.int of)], [], hC g z w a b)) rfl trivial ?_
  refine P0.ifB (fun h1 => ?_) (fun h1 => ?_)
  · refine P0.b GX11_isOf 1 (ob := []) (cf' := (32, [some (.ref 0), some (.int 11), some (.int of)], [.int 0], hC g z w a b)) rfl trivial ?_
    exact P0.ri (by decide +kernel) rfl (by rfl) ⟨(by rw [if_neg h1]), rfl⟩
  · refine P0.b GX11_isOf 2 (ob := []) (cf' := (32, [some (.ref 0), some (.int 11), some (.int of)], [.int 1], hC g z w a b)) rfl trivial ?_
    exact P0.ri (by decide +kernel) rfl (by rfl) ⟨(by rw [if_pos h1]), rfl⟩
set_option maxHeartbeats 1000000 in
theorem isOf_12 {g z : Nat → Int32} {w : Int64} {a b : Nat → Nat → Int32} (of : Int32) : P0 2 0 0 mX11_isOf (0, ent 3 [.ref 0, .int 12, .int of], [], hC g z w a b) (fun r h' => r = some (.int (if 0 ≤ of ∧ of ≤ g 11 - 1 then 1 else 0)) ∧ h' = hC g z w a b) := by
  refine P0.b GX11_isOf 2 (ob := []) (cf' := (if (12 : Int32) = 0 then 27 else 4, [some (.ref 0), some (.int 12), some (.int of)], [], hC g z w a b)) rfl trivial ?_
  rw [if_neg (show ¬ ((12 : Int32) = 0) from by decide)]
  refine P0.b GX11_isOf 3 (ob := []) (cf' := (if (12 : Int32) = 1 then 9 else 19, [some (.ref 0), some (.int 12), some (.int of)], [], hC g z w a b)) rfl trivial ?_
  rw [if_neg (show ¬ ((12 : Int32) = 1) from by decide)]
  refine P0.b GX11_isOf 2 (ob := []) (cf' := (21, [some (.ref 0), some (.int 12), some (.int of)], [.int of, .ref 0], hC g z w a b)) rfl trivial ?_
  refine P0.cd (d0 := 1) (as := [.ref 0, .int of]) (rest := []) (r1 := some (.int (if 0 ≤ of ∧ of ≤ g 11 - 1 then 1 else 0))) (h1 := hC g z w a b) (st' := [.int (if 0 ≤ of ∧ of ≤ g 11 - 1 then 1 else 0)]) GX11_isWitness kX11_isOf_21 rfl ⟨_, _, rfl, rfl, .inl ⟨_, _, _, _, rfl, rfl⟩⟩ (Nat.le_of_ble_eq_true rfl) (Nat.le_of_ble_eq_true rfl) (e_X11_isWitness (g := mx g z) (w := w) (a := my a b) of) (Nat.le_of_ble_eq_true rfl) rfl (Nat.le_of_ble_eq_true rfl) rfl ?_
  refine P0.b GX11_isOf 1 (ob := []) (cf' := (if (if 0 ≤ of ∧ of ≤ g 11 - 1 then 1 else 0) = 0 then 31 else 27, [some (.ref 0), some (.int 12), some (.int of)], [], hC g z w a b)) rfl trivial ?_
  refine P0.ifB (fun h1 => ?_) (fun h1 => ?_)
  · refine P0.b GX11_isOf 1 (ob := []) (cf' := (32, [some (.ref 0), some (.int 12), some (.int of)], [.int 0], hC g z w a b)) rfl trivial ?_
    exact P0.ri (by decide +kernel) rfl (by rfl) ⟨(by rw [if_neg h1]), rfl⟩
  · refine P0.b GX11_isOf 2 (ob := []) (cf' := (32, [some (.ref 0), some (.int 12), some (.int of)], [.int 1], hC g z w a b)) rfl trivial ?_
    exact P0.ri (by decide +kernel) rfl (by rfl) ⟨(by rw [if_pos h1]), rfl⟩
set_option maxHeartbeats 1000000 in
theorem isOf_13 {g z : Nat → Int32} {w : Int64} {a b : Nat → Nat → Int32} (of : Int32) : P0 2 0 0 mX11_isOf (0, ent 3 [.ref 0, .int 13, .int of], [], hC g z w a b) (fun r h' => r = some (.int (if 0 ≤ of ∧ of ≤ g 11 - 1 then 1 else 0)) ∧ h' = hC g z w a b) := by
  refine P0.b GX11_isOf 2 (ob := []) (cf' := (if (13 : Int32) = 0 then 27 else 4, [some (.ref 0), some (.int 13), some (.int of)], [], hC g z w a b)) rfl trivial ?_
  rw [if_neg (show ¬ ((13 : Int32) = 0) from by decide)]
  refine P0.b GX11_isOf 3 (ob := []) (cf' := (if (13 : Int32) = 1 then 9 else 19, [some (.ref 0), some (.int 13), some (.int of)], [], hC g z w a b)) rfl trivial ?_
  rw [if_neg (show ¬ ((13 : Int32) = 1) from by decide)]
  refine P0.b GX11_isOf 2 (ob := []) (cf' := (21, [some (.ref 0), some (.int 13), some (.int of)], [.int of, .ref 0], hC g z w a b)) rfl trivial ?_
  refine P0.cd (d0 := 1) (as := [.ref 0, .int of]) (rest := []) (r1 := some (.int (if 0 ≤ of ∧ of ≤ g 11 - 1 then 1 else 0))) (h1 := hC g z w a b) (st' := [.int (if 0 ≤ of ∧ of ≤ g 11 - 1 then 1 else 0)]) GX11_isWitness kX11_isOf_21 rfl ⟨_, _, rfl, rfl, .inl ⟨_, _, _, _, rfl, rfl⟩⟩ (Nat.le_of_ble_eq_true rfl) (Nat.le_of_ble_eq_true rfl) (e_X11_isWitness (g := mx g z) (w := w) (a := my a b) of) (Nat.le_of_ble_eq_true rfl) rfl (Nat.le_of_ble_eq_true rfl) rfl ?_
  refine P0.b GX11_isOf 1 (ob := []) (cf' := (if (if 0 ≤ of ∧ of ≤ g 11 - 1 then 1 else 0) = 0 then 31 else 27, [some (.ref 0), some (.int 13), some (.int of)], [], hC g z w a b)) rfl trivial ?_
  refine P0.ifB (fun h1 => ?_) (fun h1 => ?_)
  · refine P0.b GX11_isOf 1 (ob := []) (cf' := (32, [some (.ref 0), some (.int 13), some (.int of)], [.int 0], hC g z w a b)) rfl trivial ?_
    exact P0.ri (by decide +kernel) rfl (by rfl) ⟨(by rw [if_neg h1]), rfl⟩
  · refine P0.b GX11_isOf 2 (ob := []) (cf' := (32, [some (.ref 0), some (.int 13), some (.int of)], [.int 1], hC g z w a b)) rfl trivial ?_
    exact P0.ri (by decide +kernel) rfl (by rfl) ⟨(by rw [if_pos h1]), rfl⟩
set_option maxHeartbeats 1000000 in
theorem isOf_14 {g z : Nat → Int32} {w : Int64} {a b : Nat → Nat → Int32} (of : Int32) : P0 2 0 0 mX11_isOf (0, ent 3 [.ref 0, .int 14, .int of], [], hC g z w a b) (fun r h' => r = some (.int (if 0 ≤ of ∧ of ≤ g 11 - 1 then 1 else 0)) ∧ h' = hC g z w a b) := by
  refine P0.b GX11_isOf 2 (ob := []) (cf' := (if (14 : Int32) = 0 then 27 else 4, [some (.ref 0), some (.int 14), some (.int of)], [], hC g z w a b)) rfl trivial ?_
  rw [if_neg (show ¬ ((14 : Int32) = 0) from by decide)]
  refine P0.b GX11_isOf 3 (ob := []) (cf' := (if (14 : Int32) = 1 then 9 else 19, [some (.ref 0), some (.int 14), some (.int of)], [], hC g z w a b)) rfl trivial ?_
  rw [if_neg (show ¬ ((14 : Int32) = 1) from by decide)]
  refine P0.b GX11_isOf 2 (ob := []) (cf' := (21, [some (.ref 0), some (.int 14), some (.int of)], [.int of, .ref 0], hC g z w a b)) rfl trivial ?_
  refine P0.cd (d0 := 1) (as := [.ref 0, .int of]) (rest := []) (r1 := some (.int (if 0 ≤ of ∧ of ≤ g 11 - 1 then 1 else 0))) (h1 := hC g z w a b) (st' := [.int (if 0 ≤ of ∧ of ≤ g 11 - 1 then 1 else 0)]) GX11_isWitness kX11_isOf_21 rfl ⟨_, _, rfl, rfl, .inl ⟨_, _, _, _, rfl, rfl⟩⟩ (Nat.le_of_ble_eq_true rfl) (Nat.le_of_ble_eq_true rfl) (e_X11_isWitness (g := mx g z) (w := w) (a := my a b) of) (Nat.le_of_ble_eq_true rfl) rfl (Nat.le_of_ble_eq_true rfl) rfl ?_
  refine P0.b GX11_isOf 1 (ob := []) (cf' := (if (if 0 ≤ of ∧ of ≤ g 11 - 1 then 1 else 0) = 0 then 31 else 27, [some (.ref 0), some (.int 14), some (.int of)], [], hC g z w a b)) rfl trivial ?_
  refine P0.ifB (fun h1 => ?_) (fun h1 => ?_)
  · refine P0.b GX11_isOf 1 (ob := []) (cf' := (32, [some (.ref 0), some (.int 14), some (.int of)], [.int 0], hC g z w a b)) rfl trivial ?_
    exact P0.ri (by decide +kernel) rfl (by rfl) ⟨(by rw [if_neg h1]), rfl⟩
  · refine P0.b GX11_isOf 2 (ob := []) (cf' := (32, [some (.ref 0), some (.int 14), some (.int of)], [.int 1], hC g z w a b)) rfl trivial ?_
    exact P0.ri (by decide +kernel) rfl (by rfl) ⟨(by rw [if_pos h1]), rfl⟩
set_option maxHeartbeats 1000000 in
theorem isOf_15 {g z : Nat → Int32} {w : Int64} {a b : Nat → Nat → Int32} (of : Int32) : P0 2 0 0 mX11_isOf (0, ent 3 [.ref 0, .int 15, .int of], [], hC g z w a b) (fun r h' => r = some (.int (if 0 ≤ of ∧ of ≤ g 11 - 1 then 1 else 0)) ∧ h' = hC g z w a b) := by
  refine P0.b GX11_isOf 2 (ob := []) (cf' := (if (15 : Int32) = 0 then 27 else 4, [some (.ref 0), some (.int 15), some (.int of)], [], hC g z w a b)) rfl trivial ?_
  rw [if_neg (show ¬ ((15 : Int32) = 0) from by decide)]
  refine P0.b GX11_isOf 3 (ob := []) (cf' := (if (15 : Int32) = 1 then 9 else 19, [some (.ref 0), some (.int 15), some (.int of)], [], hC g z w a b)) rfl trivial ?_
  rw [if_neg (show ¬ ((15 : Int32) = 1) from by decide)]
  refine P0.b GX11_isOf 2 (ob := []) (cf' := (21, [some (.ref 0), some (.int 15), some (.int of)], [.int of, .ref 0], hC g z w a b)) rfl trivial ?_
  refine P0.cd (d0 := 1) (as := [.ref 0, .int of]) (rest := []) (r1 := some (.int (if 0 ≤ of ∧ of ≤ g 11 - 1 then 1 else 0))) (h1 := hC g z w a b) (st' := [.int (if 0 ≤ of ∧ of ≤ g 11 - 1 then 1 else 0)]) GX11_isWitness kX11_isOf_21 rfl ⟨_, _, rfl, rfl, .inl ⟨_, _, _, _, rfl, rfl⟩⟩ (Nat.le_of_ble_eq_true rfl) (Nat.le_of_ble_eq_true rfl) (e_X11_isWitness (g := mx g z) (w := w) (a := my a b) of) (Nat.le_of_ble_eq_true rfl) rfl (Nat.le_of_ble_eq_true rfl) rfl ?_
  refine P0.b GX11_isOf 1 (ob := []) (cf' := (if (if 0 ≤ of ∧ of ≤ g 11 - 1 then 1 else 0) = 0 then 31 else 27, [some (.ref 0), some (.int 15), some (.int of)], [], hC g z w a b)) rfl trivial ?_
  refine P0.ifB (fun h1 => ?_) (fun h1 => ?_)
  · refine P0.b GX11_isOf 1 (ob := []) (cf' := (32, [some (.ref 0), some (.int 15), some (.int of)], [.int 0], hC g z w a b)) rfl trivial ?_
    exact P0.ri (by decide +kernel) rfl (by rfl) ⟨(by rw [if_neg h1]), rfl⟩
  · refine P0.b GX11_isOf 2 (ob := []) (cf' := (32, [some (.ref 0), some (.int 15), some (.int of)], [.int 1], hC g z w a b)) rfl trivial ?_
    exact P0.ri (by decide +kernel) rfl (by rfl) ⟨(by rw [if_pos h1]), rfl⟩
set_option maxHeartbeats 1000000 in
theorem lays_0 {g z : Nat → Int32} {w : Int64} {a b : Nat → Nat → Int32} {of : Int32} (v : Int32) : P0 0 0 0 mX11_lays (0, ent 4 [.ref 0, .int 0, .int of, .int v], [], hC g z w a b) (fun r h' => r = none ∧ h' = hC (upd g 7 v) z w a b) := by
  refine P0.b GX11_lays 2 (ob := []) (cf' := (if (0 : Int32) = 0 then 4 else 12, [some (.ref 0), some (.int 0), some (.int of), some (.int v)], [], hC g z w a b)) rfl trivial ?_
  rw [if_pos (show ((0 : Int32) = 0) from by decide)]
  refine P0.b GX11_lays 3 (ob := []) (cf' := (9, [some (.ref 0), some (.int 0), some (.int of), some (.int v)], [], hC (upd g 7 v) z w a b)) rfl trivial ?_
  refine P0.b GX11_lays 1 (ob := []) (cf' := (68, [some (.ref 0), some (.int 0), some (.int of), some (.int v)], [], hC (upd g 7 v) z w a b)) rfl trivial ?_
  exact P0.rv (by decide +kernel) rfl ⟨rfl, rfl⟩
set_option maxHeartbeats 1000000 in
theorem lays_1 {g z : Nat → Int32} {w : Int64} {a b : Nat → Nat → Int32} {of : Int32} (h6 : vp_in of 6) (v : Int32) : P0 0 0 0 mX11_lays (0, ent 4 [.ref 0, .int 1, .int of, .int v], [], hC g z w a b) (fun r h' => r = none ∧ h' = hC g z w (up2 a 4 (upd (a 4) of.toNatClampNeg v)) b) := by
  refine P0.b GX11_lays 2 (ob := []) (cf' := (if (1 : Int32) = 0 then 4 else 12, [some (.ref 0), some (.int 1), some (.int of), some (.int v)], [], hC g z w a b)) rfl trivial ?_
  rw [if_neg (show ¬ ((1 : Int32) = 0) from by decide)]
  refine P0.b GX11_lays 3 (ob := []) (cf' := (if (1 : Int32) = 1 then 17 else 27, [some (.ref 0), some (.int 1), some (.int of), some (.int v)], [], hC g z w a b)) rfl trivial ?_
  rw [if_pos (show ((1 : Int32) = 1) from by decide)]
  refine P0.b GX11_lays 5 (ob := [vp_in of 6]) (cf' := (24, [some (.ref 0), some (.int 1), some (.int of), some (.int v)], [], hC g z w (up2 a 4 (upd (a 4) of.toNatClampNeg v)) b)) rfl ⟨h6, trivial⟩ ?_
  refine P0.b GX11_lays 1 (ob := []) (cf' := (68, [some (.ref 0), some (.int 1), some (.int of), some (.int v)], [], hC g z w (up2 a 4 (upd (a 4) of.toNatClampNeg v)) b)) rfl trivial ?_
  exact P0.rv (by decide +kernel) rfl ⟨rfl, rfl⟩
set_option maxHeartbeats 1000000 in
theorem lays_2 {g z : Nat → Int32} {w : Int64} {a b : Nat → Nat → Int32} {of : Int32} (hi : vp_in (3 * of) 18) (v : Int32) : P0 0 0 0 mX11_lays (0, ent 4 [.ref 0, .int 2, .int of, .int v], [], hC g z w a b) (fun r h' => r = none ∧ h' = hC g z w (up2 a 6 (upd (a 6) (3 * of).toNatClampNeg v)) b) := by
  refine P0.b GX11_lays 2 (ob := []) (cf' := (if (2 : Int32) = 0 then 4 else 12, [some (.ref 0), some (.int 2), some (.int of), some (.int v)], [], hC g z w a b)) rfl trivial ?_
  rw [if_neg (show ¬ ((2 : Int32) = 0) from by decide)]
  refine P0.b GX11_lays 3 (ob := []) (cf' := (if (2 : Int32) = 1 then 17 else 27, [some (.ref 0), some (.int 2), some (.int of), some (.int v)], [], hC g z w a b)) rfl trivial ?_
  rw [if_neg (show ¬ ((2 : Int32) = 1) from by decide)]
  refine P0.b GX11_lays 3 (ob := []) (cf' := (if (5 : Int32) ≤ 2 then 48 else 32, [some (.ref 0), some (.int 2), some (.int of), some (.int v)], [], hC g z w a b)) rfl trivial ?_
  rw [if_neg (show ¬ ((5 : Int32) ≤ 2) from by decide)]
  refine P0.b GX11_lays 11 (ob := [vp_in (((3 * of) + 2) - 2) 18]) (cf' := (45, [some (.ref 0), some (.int 2), some (.int of), some (.int v)], [], hC g z w (up2 a 6 (upd (a 6) (((3 * of) + 2) - 2).toNatClampNeg v)) b)) rfl ⟨(by rw [ix2]; exact hi), trivial⟩ ?_
  rw [show ((3 * of) + 2) - 2 = 3 * of from ix2 _]
  refine P0.b GX11_lays 1 (ob := []) (cf' := (68, [some (.ref 0), some (.int 2), some (.int of), some (.int v)], [], hC g z w (up2 a 6 (upd (a 6) (3 * of).toNatClampNeg v)) b)) rfl trivial ?_
  exact P0.rv (by decide +kernel) rfl ⟨rfl, rfl⟩
set_option maxHeartbeats 1000000 in
theorem lays_3 {g z : Nat → Int32} {w : Int64} {a b : Nat → Nat → Int32} {of : Int32} (hi : vp_in (3 * of + 1) 18) (v : Int32) : P0 0 0 0 mX11_lays (0, ent 4 [.ref 0, .int 3, .int of, .int v], [], hC g z w a b) (fun r h' => r = none ∧ h' = hC g z w (up2 a 6 (upd (a 6) (3 * of + 1).toNatClampNeg v)) b) := by
  refine P0.b GX11_lays 2 (ob := []) (cf' := (if (3 : Int32) = 0 then 4 else 12, [some (.ref 0), some (.int 3), some (.int of), some (.int v)], [], hC g z w a b)) rfl trivial ?_
  rw [if_neg (show ¬ ((3 : Int32) = 0) from by decide)]
  refine P0.b GX11_lays 3 (ob := []) (cf' := (if (3 : Int32) = 1 then 17 else 27, [some (.ref 0), some (.int 3), some (.int of), some (.int v)], [], hC g z w a b)) rfl trivial ?_
  rw [if_neg (show ¬ ((3 : Int32) = 1) from by decide)]
  refine P0.b GX11_lays 3 (ob := []) (cf' := (if (5 : Int32) ≤ 3 then 48 else 32, [some (.ref 0), some (.int 3), some (.int of), some (.int v)], [], hC g z w a b)) rfl trivial ?_
  rw [if_neg (show ¬ ((5 : Int32) ≤ 3) from by decide)]
  refine P0.b GX11_lays 11 (ob := [vp_in (((3 * of) + 3) - 2) 18]) (cf' := (45, [some (.ref 0), some (.int 3), some (.int of), some (.int v)], [], hC g z w (up2 a 6 (upd (a 6) (((3 * of) + 3) - 2).toNatClampNeg v)) b)) rfl ⟨(by rw [ix3]; exact hi), trivial⟩ ?_
  rw [show ((3 * of) + 3) - 2 = 3 * of + 1 from ix3 _]
  refine P0.b GX11_lays 1 (ob := []) (cf' := (68, [some (.ref 0), some (.int 3), some (.int of), some (.int v)], [], hC g z w (up2 a 6 (upd (a 6) (3 * of + 1).toNatClampNeg v)) b)) rfl trivial ?_
  exact P0.rv (by decide +kernel) rfl ⟨rfl, rfl⟩
set_option maxHeartbeats 1000000 in
theorem lays_4 {g z : Nat → Int32} {w : Int64} {a b : Nat → Nat → Int32} {of : Int32} (hi : vp_in (3 * of + 2) 18) (v : Int32) : P0 0 0 0 mX11_lays (0, ent 4 [.ref 0, .int 4, .int of, .int v], [], hC g z w a b) (fun r h' => r = none ∧ h' = hC g z w (up2 a 6 (upd (a 6) (3 * of + 2).toNatClampNeg v)) b) := by
  refine P0.b GX11_lays 2 (ob := []) (cf' := (if (4 : Int32) = 0 then 4 else 12, [some (.ref 0), some (.int 4), some (.int of), some (.int v)], [], hC g z w a b)) rfl trivial ?_
  rw [if_neg (show ¬ ((4 : Int32) = 0) from by decide)]
  refine P0.b GX11_lays 3 (ob := []) (cf' := (if (4 : Int32) = 1 then 17 else 27, [some (.ref 0), some (.int 4), some (.int of), some (.int v)], [], hC g z w a b)) rfl trivial ?_
  rw [if_neg (show ¬ ((4 : Int32) = 1) from by decide)]
  refine P0.b GX11_lays 3 (ob := []) (cf' := (if (5 : Int32) ≤ 4 then 48 else 32, [some (.ref 0), some (.int 4), some (.int of), some (.int v)], [], hC g z w a b)) rfl trivial ?_
  rw [if_neg (show ¬ ((5 : Int32) ≤ 4) from by decide)]
  refine P0.b GX11_lays 11 (ob := [vp_in (((3 * of) + 4) - 2) 18]) (cf' := (45, [some (.ref 0), some (.int 4), some (.int of), some (.int v)], [], hC g z w (up2 a 6 (upd (a 6) (((3 * of) + 4) - 2).toNatClampNeg v)) b)) rfl ⟨(by rw [ix4]; exact hi), trivial⟩ ?_
  rw [show ((3 * of) + 4) - 2 = 3 * of + 2 from ix4 _]
  refine P0.b GX11_lays 1 (ob := []) (cf' := (68, [some (.ref 0), some (.int 4), some (.int of), some (.int v)], [], hC g z w (up2 a 6 (upd (a 6) (3 * of + 2).toNatClampNeg v)) b)) rfl trivial ?_
  exact P0.rv (by decide +kernel) rfl ⟨rfl, rfl⟩
set_option maxHeartbeats 1000000 in
theorem lays_5 {g z : Nat → Int32} {w : Int64} {a b : Nat → Nat → Int32} {of : Int32} (h6 : vp_in of 6) (v : Int32) : P0 0 0 0 mX11_lays (0, ent 4 [.ref 0, .int 5, .int of, .int v], [], hC g z w a b) (fun r h' => r = none ∧ h' = hC g z w (up2 a 5 (upd (a 5) of.toNatClampNeg v)) b) := by
  refine P0.b GX11_lays 2 (ob := []) (cf' := (if (5 : Int32) = 0 then 4 else 12, [some (.ref 0), some (.int 5), some (.int of), some (.int v)], [], hC g z w a b)) rfl trivial ?_
  rw [if_neg (show ¬ ((5 : Int32) = 0) from by decide)]
  refine P0.b GX11_lays 3 (ob := []) (cf' := (if (5 : Int32) = 1 then 17 else 27, [some (.ref 0), some (.int 5), some (.int of), some (.int v)], [], hC g z w a b)) rfl trivial ?_
  rw [if_neg (show ¬ ((5 : Int32) = 1) from by decide)]
  refine P0.b GX11_lays 3 (ob := []) (cf' := (if (5 : Int32) ≤ 5 then 48 else 32, [some (.ref 0), some (.int 5), some (.int of), some (.int v)], [], hC g z w a b)) rfl trivial ?_
  rw [if_pos (show ((5 : Int32) ≤ 5) from by decide)]
  refine P0.b GX11_lays 3 (ob := []) (cf' := (if (5 : Int32) = 5 then 53 else 63, [some (.ref 0), some (.int 5), some (.int of), some (.int v)], [], hC g z w a b)) rfl trivial ?_
  rw [if_pos (show ((5 : Int32) = 5) from by decide)]
  refine P0.b GX11_lays 5 (ob := [vp_in of 6]) (cf' := (60, [some (.ref 0), some (.int 5), some (.int of), some (.int v)], [], hC g z w (up2 a 5 (upd (a 5) of.toNatClampNeg v)) b)) rfl ⟨h6, trivial⟩ ?_
  refine P0.b GX11_lays 1 (ob := []) (cf' := (68, [some (.ref 0), some (.int 5), some (.int of), some (.int v)], [], hC g z w (up2 a 5 (upd (a 5) of.toNatClampNeg v)) b)) rfl trivial ?_
  exact P0.rv (by decide +kernel) rfl ⟨rfl, rfl⟩
set_option maxHeartbeats 1000000 in
theorem lays_6 {g z : Nat → Int32} {w : Int64} {a b : Nat → Nat → Int32} {of : Int32} (v : Int32) : P0 0 0 0 mX11_lays (0, ent 4 [.ref 0, .int 6, .int of, .int v], [], hC g z w a b) (fun r h' => r = none ∧ h' = hC (upd g 4 v) z w a b) := by
  refine P0.b GX11_lays 2 (ob := []) (cf' := (if (6 : Int32) = 0 then 4 else 12, [some (.ref 0), some (.int 6), some (.int of), some (.int v)], [], hC g z w a b)) rfl trivial ?_
  rw [if_neg (show ¬ ((6 : Int32) = 0) from by decide)]
  refine P0.b GX11_lays 3 (ob := []) (cf' := (if (6 : Int32) = 1 then 17 else 27, [some (.ref 0), some (.int 6), some (.int of), some (.int v)], [], hC g z w a b)) rfl trivial ?_
  rw [if_neg (show ¬ ((6 : Int32) = 1) from by decide)]
  refine P0.b GX11_lays 3 (ob := []) (cf' := (if (5 : Int32) ≤ 6 then 48 else 32, [some (.ref 0), some (.int 6), some (.int of), some (.int v)], [], hC g z w a b)) rfl trivial ?_
  rw [if_pos (show ((5 : Int32) ≤ 6) from by decide)]
  refine P0.b GX11_lays 3 (ob := []) (cf' := (if (6 : Int32) = 5 then 53 else 63, [some (.ref 0), some (.int 6), some (.int of), some (.int v)], [], hC g z w a b)) rfl trivial ?_
  rw [if_neg (show ¬ ((6 : Int32) = 5) from by decide)]
  refine P0.b GX11_lays 3 (ob := []) (cf' := (68, [some (.ref 0), some (.int 6), some (.int of), some (.int v)], [], hC (upd g 4 v) z w a b)) rfl trivial ?_
  exact P0.rv (by decide +kernel) rfl ⟨rfl, rfl⟩
set_option maxHeartbeats 1000000 in
theorem told_0 {g z : Nat → Int32} {w : Int64} {a b : Nat → Nat → Int32} {t m : Nat} (hr : g 4 = nI t) (hS : Std1 a t) (hm : g 11 = nI m) (hm6 : m ≤ 6) (hW : ∀ i, i < m → WOK a (nI i)) (of : Int32) : P0 45 0 0 mX11_told (0, ent 3 [.ref 0, .int of, .int 0], [], hC g z w a b) (fun r h' => r = some (.int (g 7)) ∧ h' = hC g z w a b) := by
  refine P0.b GX11_told 4 (ob := []) (cf' := (6, [some (.ref 0), some (.int of), some (.int 0)], [.long 6, .long 0, .long ((0 : Int32).toInt64)], hC g z w a b)) rfl trivial ?_
  refine P0.cr (io := []) (as := [.long ((0 : Int32).toInt64), .long ((0 : Int32).toInt64), .long ((6 : Int32).toInt64)]) (rest := []) (hc := []) (hc1 := []) (r1 := some (.int 1)) (st' := [.int 1]) (h' := hC g z w a b) (d0 := 0) GX11_in kX11_told_6 rfl rfl (Nat.le_of_ble_eq_true rfl) (Nat.le_of_ble_eq_true rfl) rfl trivial (in_yes (v := (0 : Int32)) (lo := (0 : Int32)) (hi := (6 : Int32)) (by decide)) (Nat.le_of_ble_eq_true rfl) rfl (Nat.le_of_ble_eq_true rfl) (Nat.le_of_ble_eq_true rfl) rfl rfl ?_
  refine P0.b GX11_told 1 (ob := []) (cf' := (if (1 : Int32) = 0 then 12 else 26, [some (.ref 0), some (.int of), some (.int 0)], [], hC g z w a b)) rfl trivial ?_
  rw [if_neg (show ¬ ((1 : Int32) = 0) from by decide)]
  refine P0.b GX11_told 3 (ob := []) (cf' := (29, [some (.ref 0), some (.int of), some (.int 0)], [.int of, .int 0, .ref 0], hC g z w a b)) rfl trivial ?_
  refine P0.cd (d0 := 2) (as := [.ref 0, .int 0, .int of]) (rest := []) (r1 := some (.int 1)) (h1 := hC g z w a b) (st' := [.int 1]) GX11_isOf kX11_told_29 rfl ⟨_, _, rfl, rfl, .inl ⟨_, _, _, _, rfl, rfl⟩⟩ (Nat.le_of_ble_eq_true rfl) (Nat.le_of_ble_eq_true rfl) (isOf_0 of) (Nat.le_of_ble_eq_true rfl) rfl (Nat.le_of_ble_eq_true rfl) rfl ?_
  refine P0.b GX11_told 1 (ob := []) (cf' := (if (1 : Int32) = 0 then 35 else 38, [some (.ref 0), some (.int of), some (.int 0)], [], hC g z w a b)) rfl trivial ?_
  rw [if_neg (show ¬ ((1 : Int32) = 0) from by decide)]
  refine P0.b GX11_told 3 (ob := []) (cf' := (if (0 : Int32) ≤ 9 then 54 else 44, [some (.ref 0), some (.int of), some (.int 0)], [], hC g z w a b)) rfl trivial ?_
  rw [if_pos (show ((0 : Int32) ≤ 9) from by decide)]
  refine P0.b GX11_told 3 (ob := []) (cf' := (if (2 : Int32) ≤ 0 then 77 else 59, [some (.ref 0), some (.int of), some (.int 0)], [], hC g z w a b)) rfl trivial ?_
  rw [if_neg (show ¬ ((2 : Int32) ≤ 0) from by decide)]
  refine P0.b GX11_told 2 (ob := []) (cf' := (if (0 : Int32) = 0 then 63 else 70, [some (.ref 0), some (.int of), some (.int 0)], [], hC g z w a b)) rfl trivial ?_
  rw [if_pos (show ((0 : Int32) = 0) from by decide)]
  refine P0.b GX11_told 3 (ob := []) (cf' := (76, [some (.ref 0), some (.int of), some (.int 0)], [.int (g 7)], hC g z w a b)) rfl trivial ?_
  exact P0.ri (by decide +kernel) rfl rfl ⟨(rfl), rfl⟩
set_option maxHeartbeats 1000000 in
theorem told_1 {g z : Nat → Int32} {w : Int64} {a b : Nat → Nat → Int32} {t m : Nat} (hr : g 4 = nI t) (hS : Std1 a t) (hm : g 11 = nI m) (hm6 : m ≤ 6) (hW : ∀ i, i < m → WOK a (nI i)) (of : Int32) : P0 45 0 0 mX11_told (0, ent 3 [.ref 0, .int of, .int 1], [], hC g z w a b) (fun r h' => r = some (.int (if 0 ≤ of ∧ of ≤ 5 then a 4 of.toNatClampNeg else -2)) ∧ h' = hC g z w a b) := by
  refine P0.b GX11_told 4 (ob := []) (cf' := (6, [some (.ref 0), some (.int of), some (.int 1)], [.long 6, .long 0, .long ((1 : Int32).toInt64)], hC g z w a b)) rfl trivial ?_
  refine P0.cr (io := []) (as := [.long ((1 : Int32).toInt64), .long ((0 : Int32).toInt64), .long ((6 : Int32).toInt64)]) (rest := []) (hc := []) (hc1 := []) (r1 := some (.int 1)) (st' := [.int 1]) (h' := hC g z w a b) (d0 := 0) GX11_in kX11_told_6 rfl rfl (Nat.le_of_ble_eq_true rfl) (Nat.le_of_ble_eq_true rfl) rfl trivial (in_yes (v := (1 : Int32)) (lo := (0 : Int32)) (hi := (6 : Int32)) (by decide)) (Nat.le_of_ble_eq_true rfl) rfl (Nat.le_of_ble_eq_true rfl) (Nat.le_of_ble_eq_true rfl) rfl rfl ?_
  refine P0.b GX11_told 1 (ob := []) (cf' := (if (1 : Int32) = 0 then 12 else 26, [some (.ref 0), some (.int of), some (.int 1)], [], hC g z w a b)) rfl trivial ?_
  rw [if_neg (show ¬ ((1 : Int32) = 0) from by decide)]
  refine P0.b GX11_told 3 (ob := []) (cf' := (29, [some (.ref 0), some (.int of), some (.int 1)], [.int of, .int 1, .ref 0], hC g z w a b)) rfl trivial ?_
  refine P0.cd (d0 := 2) (as := [.ref 0, .int 1, .int of]) (rest := []) (r1 := some (.int (if 0 ≤ of ∧ of ≤ 5 then 1 else 0))) (h1 := hC g z w a b) (st' := [.int (if 0 ≤ of ∧ of ≤ 5 then 1 else 0)]) GX11_isOf kX11_told_29 rfl ⟨_, _, rfl, rfl, .inl ⟨_, _, _, _, rfl, rfl⟩⟩ (Nat.le_of_ble_eq_true rfl) (Nat.le_of_ble_eq_true rfl) (isOf_1 of) (Nat.le_of_ble_eq_true rfl) rfl (Nat.le_of_ble_eq_true rfl) rfl ?_
  refine P0.b GX11_told 1 (ob := []) (cf' := (if (if 0 ≤ of ∧ of ≤ 5 then 1 else 0) = 0 then 35 else 38, [some (.ref 0), some (.int of), some (.int 1)], [], hC g z w a b)) rfl trivial ?_
  refine P0.ifB (fun h1 => ?_) (fun h1 => ?_)
  · refine P0.b GX11_told 1 (ob := []) (cf' := (37, [some (.ref 0), some (.int of), some (.int 1)], [.int (-2)], hC g z w a b)) rfl trivial ?_
    exact P0.ri (by decide +kernel) rfl rfl ⟨(by rw [if_neg h1]), rfl⟩
  · refine P0.b GX11_told 3 (ob := []) (cf' := (if (1 : Int32) ≤ 9 then 54 else 44, [some (.ref 0), some (.int of), some (.int 1)], [], hC g z w a b)) rfl trivial ?_
    rw [if_pos (show ((1 : Int32) ≤ 9) from by decide)]
    refine P0.b GX11_told 3 (ob := []) (cf' := (if (2 : Int32) ≤ 1 then 77 else 59, [some (.ref 0), some (.int of), some (.int 1)], [], hC g z w a b)) rfl trivial ?_
    rw [if_neg (show ¬ ((2 : Int32) ≤ 1) from by decide)]
    refine P0.b GX11_told 2 (ob := []) (cf' := (if (1 : Int32) = 0 then 63 else 70, [some (.ref 0), some (.int of), some (.int 1)], [], hC g z w a b)) rfl trivial ?_
    rw [if_neg (show ¬ ((1 : Int32) = 0) from by decide)]
    refine P0.b GX11_told 4 (ob := [vp_in of 6]) (cf' := (76, [some (.ref 0), some (.int of), some (.int 1)], [.int ((a 4) of.toNatClampNeg)], hC g z w a b)) rfl ⟨(st_in h1), trivial⟩ ?_
    exact P0.ri (by decide +kernel) rfl rfl ⟨(by rw [if_pos h1]), rfl⟩
set_option maxHeartbeats 1000000 in
theorem told_2 {g z : Nat → Int32} {w : Int64} {a b : Nat → Nat → Int32} {t m : Nat} (hr : g 4 = nI t) (hS : Std1 a t) (hm : g 11 = nI m) (hm6 : m ≤ 6) (hW : ∀ i, i < m → WOK a (nI i)) (of : Int32) : P0 45 0 0 mX11_told (0, ent 3 [.ref 0, .int of, .int 2], [], hC g z w a b) (fun r h' => r = some (.int (if 0 ≤ of ∧ of ≤ g 11 - 1 then a 6 (3 * of).toNatClampNeg else -2)) ∧ h' = hC g z w a b) := by
  refine P0.b GX11_told 4 (ob := []) (cf' := (6, [some (.ref 0), some (.int of), some (.int 2)], [.long 6, .long 0, .long ((2 : Int32).toInt64)], hC g z w a b)) rfl trivial ?_
  refine P0.cr (io := []) (as := [.long ((2 : Int32).toInt64), .long ((0 : Int32).toInt64), .long ((6 : Int32).toInt64)]) (rest := []) (hc := []) (hc1 := []) (r1 := some (.int 1)) (st' := [.int 1]) (h' := hC g z w a b) (d0 := 0) GX11_in kX11_told_6 rfl rfl (Nat.le_of_ble_eq_true rfl) (Nat.le_of_ble_eq_true rfl) rfl trivial (in_yes (v := (2 : Int32)) (lo := (0 : Int32)) (hi := (6 : Int32)) (by decide)) (Nat.le_of_ble_eq_true rfl) rfl (Nat.le_of_ble_eq_true rfl) (Nat.le_of_ble_eq_true rfl) rfl rfl ?_
  refine P0.b GX11_told 1 (ob := []) (cf' := (if (1 : Int32) = 0 then 12 else 26, [some (.ref 0), some (.int of), some (.int 2)], [], hC g z w a b)) rfl trivial ?_
  rw [if_neg (show ¬ ((1 : Int32) = 0) from by decide)]
  refine P0.b GX11_told 3 (ob := []) (cf' := (29, [some (.ref 0), some (.int of), some (.int 2)], [.int of, .int 2, .ref 0], hC g z w a b)) rfl trivial ?_
  refine P0.cd (d0 := 2) (as := [.ref 0, .int 2, .int of]) (rest := []) (r1 := some (.int (if 0 ≤ of ∧ of ≤ g 11 - 1 then 1 else 0))) (h1 := hC g z w a b) (st' := [.int (if 0 ≤ of ∧ of ≤ g 11 - 1 then 1 else 0)]) GX11_isOf kX11_told_29 rfl ⟨_, _, rfl, rfl, .inl ⟨_, _, _, _, rfl, rfl⟩⟩ (Nat.le_of_ble_eq_true rfl) (Nat.le_of_ble_eq_true rfl) (isOf_2 of) (Nat.le_of_ble_eq_true rfl) rfl (Nat.le_of_ble_eq_true rfl) rfl ?_
  refine P0.b GX11_told 1 (ob := []) (cf' := (if (if 0 ≤ of ∧ of ≤ g 11 - 1 then 1 else 0) = 0 then 35 else 38, [some (.ref 0), some (.int of), some (.int 2)], [], hC g z w a b)) rfl trivial ?_
  refine P0.ifB (fun h1 => ?_) (fun h1 => ?_)
  · refine P0.b GX11_told 1 (ob := []) (cf' := (37, [some (.ref 0), some (.int of), some (.int 2)], [.int (-2)], hC g z w a b)) rfl trivial ?_
    exact P0.ri (by decide +kernel) rfl rfl ⟨(by rw [if_neg h1]), rfl⟩
  · refine P0.b GX11_told 3 (ob := []) (cf' := (if (2 : Int32) ≤ 9 then 54 else 44, [some (.ref 0), some (.int of), some (.int 2)], [], hC g z w a b)) rfl trivial ?_
    rw [if_pos (show ((2 : Int32) ≤ 9) from by decide)]
    refine P0.b GX11_told 3 (ob := []) (cf' := (if (2 : Int32) ≤ 2 then 77 else 59, [some (.ref 0), some (.int of), some (.int 2)], [], hC g z w a b)) rfl trivial ?_
    rw [if_pos (show ((2 : Int32) ≤ 2) from by decide)]
    refine P0.b GX11_told 3 (ob := []) (cf' := (if (5 : Int32) ≤ 2 then 97 else 82, [some (.ref 0), some (.int of), some (.int 2)], [], hC g z w a b)) rfl trivial ?_
    rw [if_neg (show ¬ ((5 : Int32) ≤ 2) from by decide)]
    refine P0.b GX11_told 11 (ob := [vp_in (((3 * of) + 2) - 2) 18]) (cf' := (116, [some (.ref 0), some (.int of), some (.int 2)], [.int ((a 6) (((3 * of) + 2) - 2).toNatClampNeg)], hC g z w a b)) rfl ⟨(by rw [ix2]; exact (wok hm hm6 hW h1).2.1), trivial⟩ ?_
    rw [show ((3 * of) + 2) - 2 = 3 * of from ix2 _]
    exact P0.ri (by decide +kernel) rfl rfl ⟨(by rw [if_pos h1]), rfl⟩
set_option maxHeartbeats 1000000 in
theorem told_3 {g z : Nat → Int32} {w : Int64} {a b : Nat → Nat → Int32} {t m : Nat} (hr : g 4 = nI t) (hS : Std1 a t) (hm : g 11 = nI m) (hm6 : m ≤ 6) (hW : ∀ i, i < m → WOK a (nI i)) (of : Int32) : P0 45 0 0 mX11_told (0, ent 3 [.ref 0, .int of, .int 3], [], hC g z w a b) (fun r h' => r = some (.int (if 0 ≤ of ∧ of ≤ g 11 - 1 then a 6 (3 * of + 1).toNatClampNeg else -2)) ∧ h' = hC g z w a b) := by
  refine P0.b GX11_told 4 (ob := []) (cf' := (6, [some (.ref 0), some (.int of), some (.int 3)], [.long 6, .long 0, .long ((3 : Int32).toInt64)], hC g z w a b)) rfl trivial ?_
  refine P0.cr (io := []) (as := [.long ((3 : Int32).toInt64), .long ((0 : Int32).toInt64), .long ((6 : Int32).toInt64)]) (rest := []) (hc := []) (hc1 := []) (r1 := some (.int 1)) (st' := [.int 1]) (h' := hC g z w a b) (d0 := 0) GX11_in kX11_told_6 rfl rfl (Nat.le_of_ble_eq_true rfl) (Nat.le_of_ble_eq_true rfl) rfl trivial (in_yes (v := (3 : Int32)) (lo := (0 : Int32)) (hi := (6 : Int32)) (by decide)) (Nat.le_of_ble_eq_true rfl) rfl (Nat.le_of_ble_eq_true rfl) (Nat.le_of_ble_eq_true rfl) rfl rfl ?_
  refine P0.b GX11_told 1 (ob := []) (cf' := (if (1 : Int32) = 0 then 12 else 26, [some (.ref 0), some (.int of), some (.int 3)], [], hC g z w a b)) rfl trivial ?_
  rw [if_neg (show ¬ ((1 : Int32) = 0) from by decide)]
  refine P0.b GX11_told 3 (ob := []) (cf' := (29, [some (.ref 0), some (.int of), some (.int 3)], [.int of, .int 3, .ref 0], hC g z w a b)) rfl trivial ?_
  refine P0.cd (d0 := 2) (as := [.ref 0, .int 3, .int of]) (rest := []) (r1 := some (.int (if 0 ≤ of ∧ of ≤ g 11 - 1 then 1 else 0))) (h1 := hC g z w a b) (st' := [.int (if 0 ≤ of ∧ of ≤ g 11 - 1 then 1 else 0)]) GX11_isOf kX11_told_29 rfl ⟨_, _, rfl, rfl, .inl ⟨_, _, _, _, rfl, rfl⟩⟩ (Nat.le_of_ble_eq_true rfl) (Nat.le_of_ble_eq_true rfl) (isOf_3 of) (Nat.le_of_ble_eq_true rfl) rfl (Nat.le_of_ble_eq_true rfl) rfl ?_
  refine P0.b GX11_told 1 (ob := []) (cf' := (if (if 0 ≤ of ∧ of ≤ g 11 - 1 then 1 else 0) = 0 then 35 else 38, [some (.ref 0), some (.int of), some (.int 3)], [], hC g z w a b)) rfl trivial ?_
  refine P0.ifB (fun h1 => ?_) (fun h1 => ?_)
  · refine P0.b GX11_told 1 (ob := []) (cf' := (37, [some (.ref 0), some (.int of), some (.int 3)], [.int (-2)], hC g z w a b)) rfl trivial ?_
    exact P0.ri (by decide +kernel) rfl rfl ⟨(by rw [if_neg h1]), rfl⟩
  · refine P0.b GX11_told 3 (ob := []) (cf' := (if (3 : Int32) ≤ 9 then 54 else 44, [some (.ref 0), some (.int of), some (.int 3)], [], hC g z w a b)) rfl trivial ?_
    rw [if_pos (show ((3 : Int32) ≤ 9) from by decide)]
    refine P0.b GX11_told 3 (ob := []) (cf' := (if (2 : Int32) ≤ 3 then 77 else 59, [some (.ref 0), some (.int of), some (.int 3)], [], hC g z w a b)) rfl trivial ?_
    rw [if_pos (show ((2 : Int32) ≤ 3) from by decide)]
    refine P0.b GX11_told 3 (ob := []) (cf' := (if (5 : Int32) ≤ 3 then 97 else 82, [some (.ref 0), some (.int of), some (.int 3)], [], hC g z w a b)) rfl trivial ?_
    rw [if_neg (show ¬ ((5 : Int32) ≤ 3) from by decide)]
    refine P0.b GX11_told 11 (ob := [vp_in (((3 * of) + 3) - 2) 18]) (cf' := (116, [some (.ref 0), some (.int of), some (.int 3)], [.int ((a 6) (((3 * of) + 3) - 2).toNatClampNeg)], hC g z w a b)) rfl ⟨(by rw [ix3]; exact (wok hm hm6 hW h1).2.2.1), trivial⟩ ?_
    rw [show ((3 * of) + 3) - 2 = 3 * of + 1 from ix3 _]
    exact P0.ri (by decide +kernel) rfl rfl ⟨(by rw [if_pos h1]), rfl⟩
set_option maxHeartbeats 1000000 in
theorem told_4 {g z : Nat → Int32} {w : Int64} {a b : Nat → Nat → Int32} {t m : Nat} (hr : g 4 = nI t) (hS : Std1 a t) (hm : g 11 = nI m) (hm6 : m ≤ 6) (hW : ∀ i, i < m → WOK a (nI i)) (of : Int32) : P0 45 0 0 mX11_told (0, ent 3 [.ref 0, .int of, .int 4], [], hC g z w a b) (fun r h' => r = some (.int (if 0 ≤ of ∧ of ≤ g 11 - 1 then a 6 (3 * of + 2).toNatClampNeg else -2)) ∧ h' = hC g z w a b) := by
  refine P0.b GX11_told 4 (ob := []) (cf' := (6, [some (.ref 0), some (.int of), some (.int 4)], [.long 6, .long 0, .long ((4 : Int32).toInt64)], hC g z w a b)) rfl trivial ?_
  refine P0.cr (io := []) (as := [.long ((4 : Int32).toInt64), .long ((0 : Int32).toInt64), .long ((6 : Int32).toInt64)]) (rest := []) (hc := []) (hc1 := []) (r1 := some (.int 1)) (st' := [.int 1]) (h' := hC g z w a b) (d0 := 0) GX11_in kX11_told_6 rfl rfl (Nat.le_of_ble_eq_true rfl) (Nat.le_of_ble_eq_true rfl) rfl trivial (in_yes (v := (4 : Int32)) (lo := (0 : Int32)) (hi := (6 : Int32)) (by decide)) (Nat.le_of_ble_eq_true rfl) rfl (Nat.le_of_ble_eq_true rfl) (Nat.le_of_ble_eq_true rfl) rfl rfl ?_
  refine P0.b GX11_told 1 (ob := []) (cf' := (if (1 : Int32) = 0 then 12 else 26, [some (.ref 0), some (.int of), some (.int 4)], [], hC g z w a b)) rfl trivial ?_
  rw [if_neg (show ¬ ((1 : Int32) = 0) from by decide)]
  refine P0.b GX11_told 3 (ob := []) (cf' := (29, [some (.ref 0), some (.int of), some (.int 4)], [.int of, .int 4, .ref 0], hC g z w a b)) rfl trivial ?_
  refine P0.cd (d0 := 2) (as := [.ref 0, .int 4, .int of]) (rest := []) (r1 := some (.int (if 0 ≤ of ∧ of ≤ g 11 - 1 then 1 else 0))) (h1 := hC g z w a b) (st' := [.int (if 0 ≤ of ∧ of ≤ g 11 - 1 then 1 else 0)]) GX11_isOf kX11_told_29 rfl ⟨_, _, rfl, rfl, .inl ⟨_, _, _, _, rfl, rfl⟩⟩ (Nat.le_of_ble_eq_true rfl) (Nat.le_of_ble_eq_true rfl) (isOf_4 of) (Nat.le_of_ble_eq_true rfl) rfl (Nat.le_of_ble_eq_true rfl) rfl ?_
  refine P0.b GX11_told 1 (ob := []) (cf' := (if (if 0 ≤ of ∧ of ≤ g 11 - 1 then 1 else 0) = 0 then 35 else 38, [some (.ref 0), some (.int of), some (.int 4)], [], hC g z w a b)) rfl trivial ?_
  refine P0.ifB (fun h1 => ?_) (fun h1 => ?_)
  · refine P0.b GX11_told 1 (ob := []) (cf' := (37, [some (.ref 0), some (.int of), some (.int 4)], [.int (-2)], hC g z w a b)) rfl trivial ?_
    exact P0.ri (by decide +kernel) rfl rfl ⟨(by rw [if_neg h1]), rfl⟩
  · refine P0.b GX11_told 3 (ob := []) (cf' := (if (4 : Int32) ≤ 9 then 54 else 44, [some (.ref 0), some (.int of), some (.int 4)], [], hC g z w a b)) rfl trivial ?_
    rw [if_pos (show ((4 : Int32) ≤ 9) from by decide)]
    refine P0.b GX11_told 3 (ob := []) (cf' := (if (2 : Int32) ≤ 4 then 77 else 59, [some (.ref 0), some (.int of), some (.int 4)], [], hC g z w a b)) rfl trivial ?_
    rw [if_pos (show ((2 : Int32) ≤ 4) from by decide)]
    refine P0.b GX11_told 3 (ob := []) (cf' := (if (5 : Int32) ≤ 4 then 97 else 82, [some (.ref 0), some (.int of), some (.int 4)], [], hC g z w a b)) rfl trivial ?_
    rw [if_neg (show ¬ ((5 : Int32) ≤ 4) from by decide)]
    refine P0.b GX11_told 11 (ob := [vp_in (((3 * of) + 4) - 2) 18]) (cf' := (116, [some (.ref 0), some (.int of), some (.int 4)], [.int ((a 6) (((3 * of) + 4) - 2).toNatClampNeg)], hC g z w a b)) rfl ⟨(by rw [ix4]; exact wok2 hm hm6 h1), trivial⟩ ?_
    rw [show ((3 * of) + 4) - 2 = 3 * of + 2 from ix4 _]
    exact P0.ri (by decide +kernel) rfl rfl ⟨(by rw [if_pos h1]), rfl⟩
set_option maxHeartbeats 1000000 in
theorem told_5 {g z : Nat → Int32} {w : Int64} {a b : Nat → Nat → Int32} {t m : Nat} (hr : g 4 = nI t) (hS : Std1 a t) (hm : g 11 = nI m) (hm6 : m ≤ 6) (hW : ∀ i, i < m → WOK a (nI i)) (of : Int32) : P0 45 0 0 mX11_told (0, ent 3 [.ref 0, .int of, .int 5], [], hC g z w a b) (fun r h' => r = some (.int (if 0 ≤ of ∧ of ≤ g 11 - 1 then a 5 of.toNatClampNeg else -2)) ∧ h' = hC g z w a b) := by
  refine P0.b GX11_told 4 (ob := []) (cf' := (6, [some (.ref 0), some (.int of), some (.int 5)], [.long 6, .long 0, .long ((5 : Int32).toInt64)], hC g z w a b)) rfl trivial ?_
  refine P0.cr (io := []) (as := [.long ((5 : Int32).toInt64), .long ((0 : Int32).toInt64), .long ((6 : Int32).toInt64)]) (rest := []) (hc := []) (hc1 := []) (r1 := some (.int 1)) (st' := [.int 1]) (h' := hC g z w a b) (d0 := 0) GX11_in kX11_told_6 rfl rfl (Nat.le_of_ble_eq_true rfl) (Nat.le_of_ble_eq_true rfl) rfl trivial (in_yes (v := (5 : Int32)) (lo := (0 : Int32)) (hi := (6 : Int32)) (by decide)) (Nat.le_of_ble_eq_true rfl) rfl (Nat.le_of_ble_eq_true rfl) (Nat.le_of_ble_eq_true rfl) rfl rfl ?_
  refine P0.b GX11_told 1 (ob := []) (cf' := (if (1 : Int32) = 0 then 12 else 26, [some (.ref 0), some (.int of), some (.int 5)], [], hC g z w a b)) rfl trivial ?_
  rw [if_neg (show ¬ ((1 : Int32) = 0) from by decide)]
  refine P0.b GX11_told 3 (ob := []) (cf' := (29, [some (.ref 0), some (.int of), some (.int 5)], [.int of, .int 5, .ref 0], hC g z w a b)) rfl trivial ?_
  refine P0.cd (d0 := 2) (as := [.ref 0, .int 5, .int of]) (rest := []) (r1 := some (.int (if 0 ≤ of ∧ of ≤ g 11 - 1 then 1 else 0))) (h1 := hC g z w a b) (st' := [.int (if 0 ≤ of ∧ of ≤ g 11 - 1 then 1 else 0)]) GX11_isOf kX11_told_29 rfl ⟨_, _, rfl, rfl, .inl ⟨_, _, _, _, rfl, rfl⟩⟩ (Nat.le_of_ble_eq_true rfl) (Nat.le_of_ble_eq_true rfl) (isOf_5 of) (Nat.le_of_ble_eq_true rfl) rfl (Nat.le_of_ble_eq_true rfl) rfl ?_
  refine P0.b GX11_told 1 (ob := []) (cf' := (if (if 0 ≤ of ∧ of ≤ g 11 - 1 then 1 else 0) = 0 then 35 else 38, [some (.ref 0), some (.int of), some (.int 5)], [], hC g z w a b)) rfl trivial ?_
  refine P0.ifB (fun h1 => ?_) (fun h1 => ?_)
  · refine P0.b GX11_told 1 (ob := []) (cf' := (37, [some (.ref 0), some (.int of), some (.int 5)], [.int (-2)], hC g z w a b)) rfl trivial ?_
    exact P0.ri (by decide +kernel) rfl rfl ⟨(by rw [if_neg h1]), rfl⟩
  · refine P0.b GX11_told 3 (ob := []) (cf' := (if (5 : Int32) ≤ 9 then 54 else 44, [some (.ref 0), some (.int of), some (.int 5)], [], hC g z w a b)) rfl trivial ?_
    rw [if_pos (show ((5 : Int32) ≤ 9) from by decide)]
    refine P0.b GX11_told 3 (ob := []) (cf' := (if (2 : Int32) ≤ 5 then 77 else 59, [some (.ref 0), some (.int of), some (.int 5)], [], hC g z w a b)) rfl trivial ?_
    rw [if_pos (show ((2 : Int32) ≤ 5) from by decide)]
    refine P0.b GX11_told 3 (ob := []) (cf' := (if (5 : Int32) ≤ 5 then 97 else 82, [some (.ref 0), some (.int of), some (.int 5)], [], hC g z w a b)) rfl trivial ?_
    rw [if_pos (show ((5 : Int32) ≤ 5) from by decide)]
    refine P0.b GX11_told 3 (ob := []) (cf' := (if (5 : Int32) = 5 then 102 else 111, [some (.ref 0), some (.int of), some (.int 5)], [], hC g z w a b)) rfl trivial ?_
    rw [if_pos (show ((5 : Int32) = 5) from by decide)]
    refine P0.b GX11_told 5 (ob := [vp_in of 6]) (cf' := (116, [some (.ref 0), some (.int of), some (.int 5)], [.int ((a 5) of.toNatClampNeg)], hC g z w a b)) rfl ⟨(wok hm hm6 hW h1).1, trivial⟩ ?_
    exact P0.ri (by decide +kernel) rfl rfl ⟨(by rw [if_pos h1]), rfl⟩
set_option maxHeartbeats 1000000 in
theorem told_6 {g z : Nat → Int32} {w : Int64} {a b : Nat → Nat → Int32} {t m : Nat} (hr : g 4 = nI t) (hS : Std1 a t) (hm : g 11 = nI m) (hm6 : m ≤ 6) (hW : ∀ i, i < m → WOK a (nI i)) (of : Int32) : P0 45 0 0 mX11_told (0, ent 3 [.ref 0, .int of, .int 6], [], hC g z w a b) (fun r h' => ∃ z' w', r = some (.int (if 0 ≤ of ∧ of ≤ g 11 - 1 then costV a t (g 7) of else -2)) ∧ h' = hC g z' w' a b) := by
  refine P0.b GX11_told 4 (ob := []) (cf' := (6, [some (.ref 0), some (.int of), some (.int 6)], [.long 6, .long 0, .long ((6 : Int32).toInt64)], hC g z w a b)) rfl trivial ?_
  refine P0.cr (io := []) (as := [.long ((6 : Int32).toInt64), .long ((0 : Int32).toInt64), .long ((6 : Int32).toInt64)]) (rest := []) (hc := []) (hc1 := []) (r1 := some (.int 1)) (st' := [.int 1]) (h' := hC g z w a b) (d0 := 0) GX11_in kX11_told_6 rfl rfl (Nat.le_of_ble_eq_true rfl) (Nat.le_of_ble_eq_true rfl) rfl trivial (in_yes (v := (6 : Int32)) (lo := (0 : Int32)) (hi := (6 : Int32)) (by decide)) (Nat.le_of_ble_eq_true rfl) rfl (Nat.le_of_ble_eq_true rfl) (Nat.le_of_ble_eq_true rfl) rfl rfl ?_
  refine P0.b GX11_told 1 (ob := []) (cf' := (if (1 : Int32) = 0 then 12 else 26, [some (.ref 0), some (.int of), some (.int 6)], [], hC g z w a b)) rfl trivial ?_
  rw [if_neg (show ¬ ((1 : Int32) = 0) from by decide)]
  refine P0.b GX11_told 3 (ob := []) (cf' := (29, [some (.ref 0), some (.int of), some (.int 6)], [.int of, .int 6, .ref 0], hC g z w a b)) rfl trivial ?_
  refine P0.cd (d0 := 2) (as := [.ref 0, .int 6, .int of]) (rest := []) (r1 := some (.int (if 0 ≤ of ∧ of ≤ g 11 - 1 then 1 else 0))) (h1 := hC g z w a b) (st' := [.int (if 0 ≤ of ∧ of ≤ g 11 - 1 then 1 else 0)]) GX11_isOf kX11_told_29 rfl ⟨_, _, rfl, rfl, .inl ⟨_, _, _, _, rfl, rfl⟩⟩ (Nat.le_of_ble_eq_true rfl) (Nat.le_of_ble_eq_true rfl) (isOf_6 of) (Nat.le_of_ble_eq_true rfl) rfl (Nat.le_of_ble_eq_true rfl) rfl ?_
  refine P0.b GX11_told 1 (ob := []) (cf' := (if (if 0 ≤ of ∧ of ≤ g 11 - 1 then 1 else 0) = 0 then 35 else 38, [some (.ref 0), some (.int of), some (.int 6)], [], hC g z w a b)) rfl trivial ?_
  refine P0.ifB (fun h1 => ?_) (fun h1 => ?_)
  · refine P0.b GX11_told 1 (ob := []) (cf' := (37, [some (.ref 0), some (.int of), some (.int 6)], [.int (-2)], hC g z w a b)) rfl trivial ?_
    exact P0.ri (by decide +kernel) rfl rfl ⟨_, _, (by rw [if_neg h1]), rfl⟩
  · refine P0.b GX11_told 3 (ob := []) (cf' := (if (6 : Int32) ≤ 9 then 54 else 44, [some (.ref 0), some (.int of), some (.int 6)], [], hC g z w a b)) rfl trivial ?_
    rw [if_pos (show ((6 : Int32) ≤ 9) from by decide)]
    refine P0.b GX11_told 3 (ob := []) (cf' := (if (2 : Int32) ≤ 6 then 77 else 59, [some (.ref 0), some (.int of), some (.int 6)], [], hC g z w a b)) rfl trivial ?_
    rw [if_pos (show ((2 : Int32) ≤ 6) from by decide)]
    refine P0.b GX11_told 3 (ob := []) (cf' := (if (5 : Int32) ≤ 6 then 97 else 82, [some (.ref 0), some (.int of), some (.int 6)], [], hC g z w a b)) rfl trivial ?_
    rw [if_pos (show ((5 : Int32) ≤ 6) from by decide)]
    refine P0.b GX11_told 3 (ob := []) (cf' := (if (6 : Int32) = 5 then 102 else 111, [some (.ref 0), some (.int of), some (.int 6)], [], hC g z w a b)) rfl trivial ?_
    rw [if_neg (show ¬ ((6 : Int32) = 5) from by decide)]
    refine P0.b GX11_told 2 (ob := []) (cf' := (113, [some (.ref 0), some (.int of), some (.int 6)], [.int of, .ref 0], hC g z w a b)) rfl trivial ?_
    refine P0.cs (as := [.ref 0, .int of]) (rest := []) GX11_costsOf kX11_told_113 rfl ⟨_, _, rfl, rfl, .inl ⟨_, _, _, _, rfl, rfl⟩⟩ (Nat.le_of_ble_eq_true rfl) (Nat.le_of_ble_eq_true rfl) (P0.mono (e_X11_costsOf hr hS (wok hm hm6 hW h1)) (Nat.le_of_ble_eq_true rfl) (Nat.zero_le _) (Nat.zero_le _) (fun _ _ q => q)) (Nat.le_of_ble_eq_true rfl) (fun _ _ ⟨_, _, _, q⟩ => q ▸ rfl) ?_
    rintro _ _ ⟨z70, w70, rfl, rfl⟩
    show P0 _ _ _ _ (116, [some (.ref 0), some (.int of), some (.int 6)], [.int (costV a t (g 7) of)], hC g z70 w70 a b) _
    exact P0.ri (by decide +kernel) rfl rfl ⟨_, _, (by rw [if_pos h1]), rfl⟩
set_option maxHeartbeats 1000000 in
theorem told_10 {g z : Nat → Int32} {w : Int64} {a b : Nat → Nat → Int32} {t m : Nat} (hr : g 4 = nI t) (hS : Std1 a t) (hm : g 11 = nI m) (hm6 : m ≤ 6) (hW : ∀ i, i < m → WOK a (nI i)) (of : Int32) : P0 45 0 0 mX11_told (0, ent 3 [.ref 0, .int of, .int 10], [], hC g z w a b) (fun r h' => ∃ z' w', r = some (.int (if 0 ≤ of ∧ of ≤ g 11 - 1 then nowV a t (g 7) of 0 else -2)) ∧ h' = hC g z' w' a b) := by
  refine P0.b GX11_told 4 (ob := []) (cf' := (6, [some (.ref 0), some (.int of), some (.int 10)], [.long 6, .long 0, .long ((10 : Int32).toInt64)], hC g z w a b)) rfl trivial ?_
  refine P0.cr (io := []) (as := [.long ((10 : Int32).toInt64), .long ((0 : Int32).toInt64), .long ((6 : Int32).toInt64)]) (rest := []) (hc := []) (hc1 := []) (r1 := some (.int 0)) (st' := [.int 0]) (h' := hC g z w a b) (d0 := 0) GX11_in kX11_told_6 rfl rfl (Nat.le_of_ble_eq_true rfl) (Nat.le_of_ble_eq_true rfl) rfl trivial (in_no (v := (10 : Int32)) (lo := (0 : Int32)) (hi := (6 : Int32)) (by decide)) (Nat.le_of_ble_eq_true rfl) rfl (Nat.le_of_ble_eq_true rfl) (Nat.le_of_ble_eq_true rfl) rfl rfl ?_
  refine P0.b GX11_told 1 (ob := []) (cf' := (if (0 : Int32) = 0 then 12 else 26, [some (.ref 0), some (.int of), some (.int 10)], [], hC g z w a b)) rfl trivial ?_
  rw [if_pos (show ((0 : Int32) = 0) from by decide)]
  refine P0.b GX11_told 4 (ob := []) (cf' := (20, [some (.ref 0), some (.int of), some (.int 10)], [.long 15, .long 10, .long ((10 : Int32).toInt64)], hC g z w a b)) rfl trivial ?_
  refine P0.cr (io := []) (as := [.long ((10 : Int32).toInt64), .long ((10 : Int32).toInt64), .long ((15 : Int32).toInt64)]) (rest := []) (hc := []) (hc1 := []) (r1 := some (.int 1)) (st' := [.int 1]) (h' := hC g z w a b) (d0 := 0) GX11_in kX11_told_20 rfl rfl (Nat.le_of_ble_eq_true rfl) (Nat.le_of_ble_eq_true rfl) rfl trivial (in_yes (v := (10 : Int32)) (lo := (10 : Int32)) (hi := (15 : Int32)) (by decide)) (Nat.le_of_ble_eq_true rfl) rfl (Nat.le_of_ble_eq_true rfl) (Nat.le_of_ble_eq_true rfl) rfl rfl ?_
  refine P0.b GX11_told 1 (ob := []) (cf' := (if (1 : Int32) = 0 then 35 else 26, [some (.ref 0), some (.int of), some (.int 10)], [], hC g z w a b)) rfl trivial ?_
  rw [if_neg (show ¬ ((1 : Int32) = 0) from by decide)]
  refine P0.b GX11_told 3 (ob := []) (cf' := (29, [some (.ref 0), some (.int of), some (.int 10)], [.int of, .int 10, .ref 0], hC g z w a b)) rfl trivial ?_
  refine P0.cd (d0 := 2) (as := [.ref 0, .int 10, .int of]) (rest := []) (r1 := some (.int (if 0 ≤ of ∧ of ≤ g 11 - 1 then 1 else 0))) (h1 := hC g z w a b) (st' := [.int (if 0 ≤ of ∧ of ≤ g 11 - 1 then 1 else 0)]) GX11_isOf kX11_told_29 rfl ⟨_, _, rfl, rfl, .inl ⟨_, _, _, _, rfl, rfl⟩⟩ (Nat.le_of_ble_eq_true rfl) (Nat.le_of_ble_eq_true rfl) (isOf_10 of) (Nat.le_of_ble_eq_true rfl) rfl (Nat.le_of_ble_eq_true rfl) rfl ?_
  refine P0.b GX11_told 1 (ob := []) (cf' := (if (if 0 ≤ of ∧ of ≤ g 11 - 1 then 1 else 0) = 0 then 35 else 38, [some (.ref 0), some (.int of), some (.int 10)], [], hC g z w a b)) rfl trivial ?_
  refine P0.ifB (fun h1 => ?_) (fun h1 => ?_)
  · refine P0.b GX11_told 1 (ob := []) (cf' := (37, [some (.ref 0), some (.int of), some (.int 10)], [.int (-2)], hC g z w a b)) rfl trivial ?_
    exact P0.ri (by decide +kernel) rfl rfl ⟨_, _, (by rw [if_neg h1]), rfl⟩
  · refine P0.b GX11_told 3 (ob := []) (cf' := (if (10 : Int32) ≤ 9 then 54 else 44, [some (.ref 0), some (.int of), some (.int 10)], [], hC g z w a b)) rfl trivial ?_
    rw [if_neg (show ¬ ((10 : Int32) ≤ 9) from by decide)]
    refine P0.b GX11_told 5 (ob := []) (cf' := (50, [some (.ref 0), some (.int of), some (.int 10)], [.int (10 - 10), .int of, .ref 0], hC g z w a b)) rfl trivial ?_
    rw [show (10 - 10 : Int32) = 0 from by decide]
    refine P0.cs (as := [.ref 0, .int of, .int 0]) (rest := []) GX11_saysNow kX11_told_50 rfl ⟨_, _, rfl, rfl, .inl ⟨_, _, _, _, rfl, rfl⟩⟩ (Nat.le_of_ble_eq_true rfl) (Nat.le_of_ble_eq_true rfl) (P0.mono (e_X11_saysNow hr hS (wok hm hm6 hW h1) (row4 (x := 0) (by decide)) (row4' (x := 0) (by decide))) (Nat.le_of_ble_eq_true rfl) (Nat.zero_le _) (Nat.zero_le _) (fun _ _ q => q)) (Nat.le_of_ble_eq_true rfl) (fun _ _ ⟨_, _, _, q⟩ => q ▸ rfl) ?_
    rintro _ _ ⟨z71, w71, rfl, rfl⟩
    show P0 _ _ _ _ (53, [some (.ref 0), some (.int of), some (.int 10)], [.int (nowV a t (g 7) of 0)], hC g z71 w71 a b) _
    exact P0.ri (by decide +kernel) rfl rfl ⟨_, _, (by rw [if_pos h1]), rfl⟩
set_option maxHeartbeats 1000000 in
theorem told_11 {g z : Nat → Int32} {w : Int64} {a b : Nat → Nat → Int32} {t m : Nat} (hr : g 4 = nI t) (hS : Std1 a t) (hm : g 11 = nI m) (hm6 : m ≤ 6) (hW : ∀ i, i < m → WOK a (nI i)) (of : Int32) : P0 45 0 0 mX11_told (0, ent 3 [.ref 0, .int of, .int 11], [], hC g z w a b) (fun r h' => ∃ z' w', r = some (.int (if 0 ≤ of ∧ of ≤ g 11 - 1 then nowV a t (g 7) of 1 else -2)) ∧ h' = hC g z' w' a b) := by
  refine P0.b GX11_told 4 (ob := []) (cf' := (6, [some (.ref 0), some (.int of), some (.int 11)], [.long 6, .long 0, .long ((11 : Int32).toInt64)], hC g z w a b)) rfl trivial ?_
  refine P0.cr (io := []) (as := [.long ((11 : Int32).toInt64), .long ((0 : Int32).toInt64), .long ((6 : Int32).toInt64)]) (rest := []) (hc := []) (hc1 := []) (r1 := some (.int 0)) (st' := [.int 0]) (h' := hC g z w a b) (d0 := 0) GX11_in kX11_told_6 rfl rfl (Nat.le_of_ble_eq_true rfl) (Nat.le_of_ble_eq_true rfl) rfl trivial (in_no (v := (11 : Int32)) (lo := (0 : Int32)) (hi := (6 : Int32)) (by decide)) (Nat.le_of_ble_eq_true rfl) rfl (Nat.le_of_ble_eq_true rfl) (Nat.le_of_ble_eq_true rfl) rfl rfl ?_
  refine P0.b GX11_told 1 (ob := []) (cf' := (if (0 : Int32) = 0 then 12 else 26, [some (.ref 0), some (.int of), some (.int 11)], [], hC g z w a b)) rfl trivial ?_
  rw [if_pos (show ((0 : Int32) = 0) from by decide)]
  refine P0.b GX11_told 4 (ob := []) (cf' := (20, [some (.ref 0), some (.int of), some (.int 11)], [.long 15, .long 10, .long ((11 : Int32).toInt64)], hC g z w a b)) rfl trivial ?_
  refine P0.cr (io := []) (as := [.long ((11 : Int32).toInt64), .long ((10 : Int32).toInt64), .long ((15 : Int32).toInt64)]) (rest := []) (hc := []) (hc1 := []) (r1 := some (.int 1)) (st' := [.int 1]) (h' := hC g z w a b) (d0 := 0) GX11_in kX11_told_20 rfl rfl (Nat.le_of_ble_eq_true rfl) (Nat.le_of_ble_eq_true rfl) rfl trivial (in_yes (v := (11 : Int32)) (lo := (10 : Int32)) (hi := (15 : Int32)) (by decide)) (Nat.le_of_ble_eq_true rfl) rfl (Nat.le_of_ble_eq_true rfl) (Nat.le_of_ble_eq_true rfl) rfl rfl ?_
  refine P0.b GX11_told 1 (ob := []) (cf' := (if (1 : Int32) = 0 then 35 else 26, [some (.ref 0), some (.int of), some (.int 11)], [], hC g z w a b)) rfl trivial ?_
  rw [if_neg (show ¬ ((1 : Int32) = 0) from by decide)]
  refine P0.b GX11_told 3 (ob := []) (cf' := (29, [some (.ref 0), some (.int of), some (.int 11)], [.int of, .int 11, .ref 0], hC g z w a b)) rfl trivial ?_
  refine P0.cd (d0 := 2) (as := [.ref 0, .int 11, .int of]) (rest := []) (r1 := some (.int (if 0 ≤ of ∧ of ≤ g 11 - 1 then 1 else 0))) (h1 := hC g z w a b) (st' := [.int (if 0 ≤ of ∧ of ≤ g 11 - 1 then 1 else 0)]) GX11_isOf kX11_told_29 rfl ⟨_, _, rfl, rfl, .inl ⟨_, _, _, _, rfl, rfl⟩⟩ (Nat.le_of_ble_eq_true rfl) (Nat.le_of_ble_eq_true rfl) (isOf_11 of) (Nat.le_of_ble_eq_true rfl) rfl (Nat.le_of_ble_eq_true rfl) rfl ?_
  refine P0.b GX11_told 1 (ob := []) (cf' := (if (if 0 ≤ of ∧ of ≤ g 11 - 1 then 1 else 0) = 0 then 35 else 38, [some (.ref 0), some (.int of), some (.int 11)], [], hC g z w a b)) rfl trivial ?_
  refine P0.ifB (fun h1 => ?_) (fun h1 => ?_)
  · refine P0.b GX11_told 1 (ob := []) (cf' := (37, [some (.ref 0), some (.int of), some (.int 11)], [.int (-2)], hC g z w a b)) rfl trivial ?_
    exact P0.ri (by decide +kernel) rfl rfl ⟨_, _, (by rw [if_neg h1]), rfl⟩
  · refine P0.b GX11_told 3 (ob := []) (cf' := (if (11 : Int32) ≤ 9 then 54 else 44, [some (.ref 0), some (.int of), some (.int 11)], [], hC g z w a b)) rfl trivial ?_
    rw [if_neg (show ¬ ((11 : Int32) ≤ 9) from by decide)]
    refine P0.b GX11_told 5 (ob := []) (cf' := (50, [some (.ref 0), some (.int of), some (.int 11)], [.int (11 - 10), .int of, .ref 0], hC g z w a b)) rfl trivial ?_
    rw [show (11 - 10 : Int32) = 1 from by decide]
    refine P0.cs (as := [.ref 0, .int of, .int 1]) (rest := []) GX11_saysNow kX11_told_50 rfl ⟨_, _, rfl, rfl, .inl ⟨_, _, _, _, rfl, rfl⟩⟩ (Nat.le_of_ble_eq_true rfl) (Nat.le_of_ble_eq_true rfl) (P0.mono (e_X11_saysNow hr hS (wok hm hm6 hW h1) (row4 (x := 1) (by decide)) (row4' (x := 1) (by decide))) (Nat.le_of_ble_eq_true rfl) (Nat.zero_le _) (Nat.zero_le _) (fun _ _ q => q)) (Nat.le_of_ble_eq_true rfl) (fun _ _ ⟨_, _, _, q⟩ => q ▸ rfl) ?_
    rintro _ _ ⟨z72, w72, rfl, rfl⟩
    show P0 _ _ _ _ (53, [some (.ref 0), some (.int of), some (.int 11)], [.int (nowV a t (g 7) of 1)], hC g z72 w72 a b) _
    exact P0.ri (by decide +kernel) rfl rfl ⟨_, _, (by rw [if_pos h1]), rfl⟩
set_option maxHeartbeats 1000000 in
theorem told_12 {g z : Nat → Int32} {w : Int64} {a b : Nat → Nat → Int32} {t m : Nat} (hr : g 4 = nI t) (hS : Std1 a t) (hm : g 11 = nI m) (hm6 : m ≤ 6) (hW : ∀ i, i < m → WOK a (nI i)) (of : Int32) : P0 45 0 0 mX11_told (0, ent 3 [.ref 0, .int of, .int 12], [], hC g z w a b) (fun r h' => ∃ z' w', r = some (.int (if 0 ≤ of ∧ of ≤ g 11 - 1 then nowV a t (g 7) of 2 else -2)) ∧ h' = hC g z' w' a b) := by
  refine P0.b GX11_told 4 (ob := []) (cf' := (6, [some (.ref 0), some (.int of), some (.int 12)], [.long 6, .long 0, .long ((12 : Int32).toInt64)], hC g z w a b)) rfl trivial ?_
  refine P0.cr (io := []) (as := [.long ((12 : Int32).toInt64), .long ((0 : Int32).toInt64), .long ((6 : Int32).toInt64)]) (rest := []) (hc := []) (hc1 := []) (r1 := some (.int 0)) (st' := [.int 0]) (h' := hC g z w a b) (d0 := 0) GX11_in kX11_told_6 rfl rfl (Nat.le_of_ble_eq_true rfl) (Nat.le_of_ble_eq_true rfl) rfl trivial (in_no (v := (12 : Int32)) (lo := (0 : Int32)) (hi := (6 : Int32)) (by decide)) (Nat.le_of_ble_eq_true rfl) rfl (Nat.le_of_ble_eq_true rfl) (Nat.le_of_ble_eq_true rfl) rfl rfl ?_
  refine P0.b GX11_told 1 (ob := []) (cf' := (if (0 : Int32) = 0 then 12 else 26, [some (.ref 0), some (.int of), some (.int 12)], [], hC g z w a b)) rfl trivial ?_
  rw [if_pos (show ((0 : Int32) = 0) from by decide)]
  refine P0.b GX11_told 4 (ob := []) (cf' := (20, [some (.ref 0), some (.int of), some (.int 12)], [.long 15, .long 10, .long ((12 : Int32).toInt64)], hC g z w a b)) rfl trivial ?_
  refine P0.cr (io := []) (as := [.long ((12 : Int32).toInt64), .long ((10 : Int32).toInt64), .long ((15 : Int32).toInt64)]) (rest := []) (hc := []) (hc1 := []) (r1 := some (.int 1)) (st' := [.int 1]) (h' := hC g z w a b) (d0 := 0) GX11_in kX11_told_20 rfl rfl (Nat.le_of_ble_eq_true rfl) (Nat.le_of_ble_eq_true rfl) rfl trivial (in_yes (v := (12 : Int32)) (lo := (10 : Int32)) (hi := (15 : Int32)) (by decide)) (Nat.le_of_ble_eq_true rfl) rfl (Nat.le_of_ble_eq_true rfl) (Nat.le_of_ble_eq_true rfl) rfl rfl ?_
  refine P0.b GX11_told 1 (ob := []) (cf' := (if (1 : Int32) = 0 then 35 else 26, [some (.ref 0), some (.int of), some (.int 12)], [], hC g z w a b)) rfl trivial ?_
  rw [if_neg (show ¬ ((1 : Int32) = 0) from by decide)]
  refine P0.b GX11_told 3 (ob := []) (cf' := (29, [some (.ref 0), some (.int of), some (.int 12)], [.int of, .int 12, .ref 0], hC g z w a b)) rfl trivial ?_
  refine P0.cd (d0 := 2) (as := [.ref 0, .int 12, .int of]) (rest := []) (r1 := some (.int (if 0 ≤ of ∧ of ≤ g 11 - 1 then 1 else 0))) (h1 := hC g z w a b) (st' := [.int (if 0 ≤ of ∧ of ≤ g 11 - 1 then 1 else 0)]) GX11_isOf kX11_told_29 rfl ⟨_, _, rfl, rfl, .inl ⟨_, _, _, _, rfl, rfl⟩⟩ (Nat.le_of_ble_eq_true rfl) (Nat.le_of_ble_eq_true rfl) (isOf_12 of) (Nat.le_of_ble_eq_true rfl) rfl (Nat.le_of_ble_eq_true rfl) rfl ?_
  refine P0.b GX11_told 1 (ob := []) (cf' := (if (if 0 ≤ of ∧ of ≤ g 11 - 1 then 1 else 0) = 0 then 35 else 38, [some (.ref 0), some (.int of), some (.int 12)], [], hC g z w a b)) rfl trivial ?_
  refine P0.ifB (fun h1 => ?_) (fun h1 => ?_)
  · refine P0.b GX11_told 1 (ob := []) (cf' := (37, [some (.ref 0), some (.int of), some (.int 12)], [.int (-2)], hC g z w a b)) rfl trivial ?_
    exact P0.ri (by decide +kernel) rfl rfl ⟨_, _, (by rw [if_neg h1]), rfl⟩
  · refine P0.b GX11_told 3 (ob := []) (cf' := (if (12 : Int32) ≤ 9 then 54 else 44, [some (.ref 0), some (.int of), some (.int 12)], [], hC g z w a b)) rfl trivial ?_
    rw [if_neg (show ¬ ((12 : Int32) ≤ 9) from by decide)]
    refine P0.b GX11_told 5 (ob := []) (cf' := (50, [some (.ref 0), some (.int of), some (.int 12)], [.int (12 - 10), .int of, .ref 0], hC g z w a b)) rfl trivial ?_
    rw [show (12 - 10 : Int32) = 2 from by decide]
    refine P0.cs (as := [.ref 0, .int of, .int 2]) (rest := []) GX11_saysNow kX11_told_50 rfl ⟨_, _, rfl, rfl, .inl ⟨_, _, _, _, rfl, rfl⟩⟩ (Nat.le_of_ble_eq_true rfl) (Nat.le_of_ble_eq_true rfl) (P0.mono (e_X11_saysNow hr hS (wok hm hm6 hW h1) (row4 (x := 2) (by decide)) (row4' (x := 2) (by decide))) (Nat.le_of_ble_eq_true rfl) (Nat.zero_le _) (Nat.zero_le _) (fun _ _ q => q)) (Nat.le_of_ble_eq_true rfl) (fun _ _ ⟨_, _, _, q⟩ => q ▸ rfl) ?_
    rintro _ _ ⟨z73, w73, rfl, rfl⟩
    show P0 _ _ _ _ (53, [some (.ref 0), some (.int of), some (.int 12)], [.int (nowV a t (g 7) of 2)], hC g z73 w73 a b) _
    exact P0.ri (by decide +kernel) rfl rfl ⟨_, _, (by rw [if_pos h1]), rfl⟩
set_option maxHeartbeats 1000000 in
theorem told_13 {g z : Nat → Int32} {w : Int64} {a b : Nat → Nat → Int32} {t m : Nat} (hr : g 4 = nI t) (hS : Std1 a t) (hm : g 11 = nI m) (hm6 : m ≤ 6) (hW : ∀ i, i < m → WOK a (nI i)) (of : Int32) : P0 45 0 0 mX11_told (0, ent 3 [.ref 0, .int of, .int 13], [], hC g z w a b) (fun r h' => ∃ z' w', r = some (.int (if 0 ≤ of ∧ of ≤ g 11 - 1 then nowV a t (g 7) of 3 else -2)) ∧ h' = hC g z' w' a b) := by
  refine P0.b GX11_told 4 (ob := []) (cf' := (6, [some (.ref 0), some (.int of), some (.int 13)], [.long 6, .long 0, .long ((13 : Int32).toInt64)], hC g z w a b)) rfl trivial ?_
  refine P0.cr (io := []) (as := [.long ((13 : Int32).toInt64), .long ((0 : Int32).toInt64), .long ((6 : Int32).toInt64)]) (rest := []) (hc := []) (hc1 := []) (r1 := some (.int 0)) (st' := [.int 0]) (h' := hC g z w a b) (d0 := 0) GX11_in kX11_told_6 rfl rfl (Nat.le_of_ble_eq_true rfl) (Nat.le_of_ble_eq_true rfl) rfl trivial (in_no (v := (13 : Int32)) (lo := (0 : Int32)) (hi := (6 : Int32)) (by decide)) (Nat.le_of_ble_eq_true rfl) rfl (Nat.le_of_ble_eq_true rfl) (Nat.le_of_ble_eq_true rfl) rfl rfl ?_
  refine P0.b GX11_told 1 (ob := []) (cf' := (if (0 : Int32) = 0 then 12 else 26, [some (.ref 0), some (.int of), some (.int 13)], [], hC g z w a b)) rfl trivial ?_
  rw [if_pos (show ((0 : Int32) = 0) from by decide)]
  refine P0.b GX11_told 4 (ob := []) (cf' := (20, [some (.ref 0), some (.int of), some (.int 13)], [.long 15, .long 10, .long ((13 : Int32).toInt64)], hC g z w a b)) rfl trivial ?_
  refine P0.cr (io := []) (as := [.long ((13 : Int32).toInt64), .long ((10 : Int32).toInt64), .long ((15 : Int32).toInt64)]) (rest := []) (hc := []) (hc1 := []) (r1 := some (.int 1)) (st' := [.int 1]) (h' := hC g z w a b) (d0 := 0) GX11_in kX11_told_20 rfl rfl (Nat.le_of_ble_eq_true rfl) (Nat.le_of_ble_eq_true rfl) rfl trivial (in_yes (v := (13 : Int32)) (lo := (10 : Int32)) (hi := (15 : Int32)) (by decide)) (Nat.le_of_ble_eq_true rfl) rfl (Nat.le_of_ble_eq_true rfl) (Nat.le_of_ble_eq_true rfl) rfl rfl ?_
  refine P0.b GX11_told 1 (ob := []) (cf' := (if (1 : Int32) = 0 then 35 else 26, [some (.ref 0), some (.int of), some (.int 13)], [], hC g z w a b)) rfl trivial ?_
  rw [if_neg (show ¬ ((1 : Int32) = 0) from by decide)]
  refine P0.b GX11_told 3 (ob := []) (cf' := (29, [some (.ref 0), some (.int of), some (.int 13)], [.int of, .int 13, .ref 0], hC g z w a b)) rfl trivial ?_
  refine P0.cd (d0 := 2) (as := [.ref 0, .int 13, .int of]) (rest := []) (r1 := some (.int (if 0 ≤ of ∧ of ≤ g 11 - 1 then 1 else 0))) (h1 := hC g z w a b) (st' := [.int (if 0 ≤ of ∧ of ≤ g 11 - 1 then 1 else 0)]) GX11_isOf kX11_told_29 rfl ⟨_, _, rfl, rfl, .inl ⟨_, _, _, _, rfl, rfl⟩⟩ (Nat.le_of_ble_eq_true rfl) (Nat.le_of_ble_eq_true rfl) (isOf_13 of) (Nat.le_of_ble_eq_true rfl) rfl (Nat.le_of_ble_eq_true rfl) rfl ?_
  refine P0.b GX11_told 1 (ob := []) (cf' := (if (if 0 ≤ of ∧ of ≤ g 11 - 1 then 1 else 0) = 0 then 35 else 38, [some (.ref 0), some (.int of), some (.int 13)], [], hC g z w a b)) rfl trivial ?_
  refine P0.ifB (fun h1 => ?_) (fun h1 => ?_)
  · refine P0.b GX11_told 1 (ob := []) (cf' := (37, [some (.ref 0), some (.int of), some (.int 13)], [.int (-2)], hC g z w a b)) rfl trivial ?_
    exact P0.ri (by decide +kernel) rfl rfl ⟨_, _, (by rw [if_neg h1]), rfl⟩
  · refine P0.b GX11_told 3 (ob := []) (cf' := (if (13 : Int32) ≤ 9 then 54 else 44, [some (.ref 0), some (.int of), some (.int 13)], [], hC g z w a b)) rfl trivial ?_
    rw [if_neg (show ¬ ((13 : Int32) ≤ 9) from by decide)]
    refine P0.b GX11_told 5 (ob := []) (cf' := (50, [some (.ref 0), some (.int of), some (.int 13)], [.int (13 - 10), .int of, .ref 0], hC g z w a b)) rfl trivial ?_
    rw [show (13 - 10 : Int32) = 3 from by decide]
    refine P0.cs (as := [.ref 0, .int of, .int 3]) (rest := []) GX11_saysNow kX11_told_50 rfl ⟨_, _, rfl, rfl, .inl ⟨_, _, _, _, rfl, rfl⟩⟩ (Nat.le_of_ble_eq_true rfl) (Nat.le_of_ble_eq_true rfl) (P0.mono (e_X11_saysNow hr hS (wok hm hm6 hW h1) (row4 (x := 3) (by decide)) (row4' (x := 3) (by decide))) (Nat.le_of_ble_eq_true rfl) (Nat.zero_le _) (Nat.zero_le _) (fun _ _ q => q)) (Nat.le_of_ble_eq_true rfl) (fun _ _ ⟨_, _, _, q⟩ => q ▸ rfl) ?_
    rintro _ _ ⟨z74, w74, rfl, rfl⟩
    show P0 _ _ _ _ (53, [some (.ref 0), some (.int of), some (.int 13)], [.int (nowV a t (g 7) of 3)], hC g z74 w74 a b) _
    exact P0.ri (by decide +kernel) rfl rfl ⟨_, _, (by rw [if_pos h1]), rfl⟩
set_option maxHeartbeats 1000000 in
theorem told_14 {g z : Nat → Int32} {w : Int64} {a b : Nat → Nat → Int32} {t m : Nat} (hr : g 4 = nI t) (hS : Std1 a t) (hm : g 11 = nI m) (hm6 : m ≤ 6) (hW : ∀ i, i < m → WOK a (nI i)) (of : Int32) : P0 45 0 0 mX11_told (0, ent 3 [.ref 0, .int of, .int 14], [], hC g z w a b) (fun r h' => ∃ z' w', r = some (.int (if 0 ≤ of ∧ of ≤ g 11 - 1 then nowV a t (g 7) of 4 else -2)) ∧ h' = hC g z' w' a b) := by
  refine P0.b GX11_told 4 (ob := []) (cf' := (6, [some (.ref 0), some (.int of), some (.int 14)], [.long 6, .long 0, .long ((14 : Int32).toInt64)], hC g z w a b)) rfl trivial ?_
  refine P0.cr (io := []) (as := [.long ((14 : Int32).toInt64), .long ((0 : Int32).toInt64), .long ((6 : Int32).toInt64)]) (rest := []) (hc := []) (hc1 := []) (r1 := some (.int 0)) (st' := [.int 0]) (h' := hC g z w a b) (d0 := 0) GX11_in kX11_told_6 rfl rfl (Nat.le_of_ble_eq_true rfl) (Nat.le_of_ble_eq_true rfl) rfl trivial (in_no (v := (14 : Int32)) (lo := (0 : Int32)) (hi := (6 : Int32)) (by decide)) (Nat.le_of_ble_eq_true rfl) rfl (Nat.le_of_ble_eq_true rfl) (Nat.le_of_ble_eq_true rfl) rfl rfl ?_
  refine P0.b GX11_told 1 (ob := []) (cf' := (if (0 : Int32) = 0 then 12 else 26, [some (.ref 0), some (.int of), some (.int 14)], [], hC g z w a b)) rfl trivial ?_
  rw [if_pos (show ((0 : Int32) = 0) from by decide)]
  refine P0.b GX11_told 4 (ob := []) (cf' := (20, [some (.ref 0), some (.int of), some (.int 14)], [.long 15, .long 10, .long ((14 : Int32).toInt64)], hC g z w a b)) rfl trivial ?_
  refine P0.cr (io := []) (as := [.long ((14 : Int32).toInt64), .long ((10 : Int32).toInt64), .long ((15 : Int32).toInt64)]) (rest := []) (hc := []) (hc1 := []) (r1 := some (.int 1)) (st' := [.int 1]) (h' := hC g z w a b) (d0 := 0) GX11_in kX11_told_20 rfl rfl (Nat.le_of_ble_eq_true rfl) (Nat.le_of_ble_eq_true rfl) rfl trivial (in_yes (v := (14 : Int32)) (lo := (10 : Int32)) (hi := (15 : Int32)) (by decide)) (Nat.le_of_ble_eq_true rfl) rfl (Nat.le_of_ble_eq_true rfl) (Nat.le_of_ble_eq_true rfl) rfl rfl ?_
  refine P0.b GX11_told 1 (ob := []) (cf' := (if (1 : Int32) = 0 then 35 else 26, [some (.ref 0), some (.int of), some (.int 14)], [], hC g z w a b)) rfl trivial ?_
  rw [if_neg (show ¬ ((1 : Int32) = 0) from by decide)]
  refine P0.b GX11_told 3 (ob := []) (cf' := (29, [some (.ref 0), some (.int of), some (.int 14)], [.int of, .int 14, .ref 0], hC g z w a b)) rfl trivial ?_
  refine P0.cd (d0 := 2) (as := [.ref 0, .int 14, .int of]) (rest := []) (r1 := some (.int (if 0 ≤ of ∧ of ≤ g 11 - 1 then 1 else 0))) (h1 := hC g z w a b) (st' := [.int (if 0 ≤ of ∧ of ≤ g 11 - 1 then 1 else 0)]) GX11_isOf kX11_told_29 rfl ⟨_, _, rfl, rfl, .inl ⟨_, _, _, _, rfl, rfl⟩⟩ (Nat.le_of_ble_eq_true rfl) (Nat.le_of_ble_eq_true rfl) (isOf_14 of) (Nat.le_of_ble_eq_true rfl) rfl (Nat.le_of_ble_eq_true rfl) rfl ?_
  refine P0.b GX11_told 1 (ob := []) (cf' := (if (if 0 ≤ of ∧ of ≤ g 11 - 1 then 1 else 0) = 0 then 35 else 38, [some (.ref 0), some (.int of), some (.int 14)], [], hC g z w a b)) rfl trivial ?_
  refine P0.ifB (fun h1 => ?_) (fun h1 => ?_)
  · refine P0.b GX11_told 1 (ob := []) (cf' := (37, [some (.ref 0), some (.int of), some (.int 14)], [.int (-2)], hC g z w a b)) rfl trivial ?_
    exact P0.ri (by decide +kernel) rfl rfl ⟨_, _, (by rw [if_neg h1]), rfl⟩
  · refine P0.b GX11_told 3 (ob := []) (cf' := (if (14 : Int32) ≤ 9 then 54 else 44, [some (.ref 0), some (.int of), some (.int 14)], [], hC g z w a b)) rfl trivial ?_
    rw [if_neg (show ¬ ((14 : Int32) ≤ 9) from by decide)]
    refine P0.b GX11_told 5 (ob := []) (cf' := (50, [some (.ref 0), some (.int of), some (.int 14)], [.int (14 - 10), .int of, .ref 0], hC g z w a b)) rfl trivial ?_
    rw [show (14 - 10 : Int32) = 4 from by decide]
    refine P0.cs (as := [.ref 0, .int of, .int 4]) (rest := []) GX11_saysNow kX11_told_50 rfl ⟨_, _, rfl, rfl, .inl ⟨_, _, _, _, rfl, rfl⟩⟩ (Nat.le_of_ble_eq_true rfl) (Nat.le_of_ble_eq_true rfl) (P0.mono (e_X11_saysNow hr hS (wok hm hm6 hW h1) (row4 (x := 4) (by decide)) (row4' (x := 4) (by decide))) (Nat.le_of_ble_eq_true rfl) (Nat.zero_le _) (Nat.zero_le _) (fun _ _ q => q)) (Nat.le_of_ble_eq_true rfl) (fun _ _ ⟨_, _, _, q⟩ => q ▸ rfl) ?_
    rintro _ _ ⟨z75, w75, rfl, rfl⟩
    show P0 _ _ _ _ (53, [some (.ref 0), some (.int of), some (.int 14)], [.int (nowV a t (g 7) of 4)], hC g z75 w75 a b) _
    exact P0.ri (by decide +kernel) rfl rfl ⟨_, _, (by rw [if_pos h1]), rfl⟩
set_option maxHeartbeats 1000000 in
theorem told_15 {g z : Nat → Int32} {w : Int64} {a b : Nat → Nat → Int32} {t m : Nat} (hr : g 4 = nI t) (hS : Std1 a t) (hm : g 11 = nI m) (hm6 : m ≤ 6) (hW : ∀ i, i < m → WOK a (nI i)) (of : Int32) : P0 45 0 0 mX11_told (0, ent 3 [.ref 0, .int of, .int 15], [], hC g z w a b) (fun r h' => ∃ z' w', r = some (.int (if 0 ≤ of ∧ of ≤ g 11 - 1 then nowV a t (g 7) of 5 else -2)) ∧ h' = hC g z' w' a b) := by
  refine P0.b GX11_told 4 (ob := []) (cf' := (6, [some (.ref 0), some (.int of), some (.int 15)], [.long 6, .long 0, .long ((15 : Int32).toInt64)], hC g z w a b)) rfl trivial ?_
  refine P0.cr (io := []) (as := [.long ((15 : Int32).toInt64), .long ((0 : Int32).toInt64), .long ((6 : Int32).toInt64)]) (rest := []) (hc := []) (hc1 := []) (r1 := some (.int 0)) (st' := [.int 0]) (h' := hC g z w a b) (d0 := 0) GX11_in kX11_told_6 rfl rfl (Nat.le_of_ble_eq_true rfl) (Nat.le_of_ble_eq_true rfl) rfl trivial (in_no (v := (15 : Int32)) (lo := (0 : Int32)) (hi := (6 : Int32)) (by decide)) (Nat.le_of_ble_eq_true rfl) rfl (Nat.le_of_ble_eq_true rfl) (Nat.le_of_ble_eq_true rfl) rfl rfl ?_
  refine P0.b GX11_told 1 (ob := []) (cf' := (if (0 : Int32) = 0 then 12 else 26, [some (.ref 0), some (.int of), some (.int 15)], [], hC g z w a b)) rfl trivial ?_
  rw [if_pos (show ((0 : Int32) = 0) from by decide)]
  refine P0.b GX11_told 4 (ob := []) (cf' := (20, [some (.ref 0), some (.int of), some (.int 15)], [.long 15, .long 10, .long ((15 : Int32).toInt64)], hC g z w a b)) rfl trivial ?_
  refine P0.cr (io := []) (as := [.long ((15 : Int32).toInt64), .long ((10 : Int32).toInt64), .long ((15 : Int32).toInt64)]) (rest := []) (hc := []) (hc1 := []) (r1 := some (.int 1)) (st' := [.int 1]) (h' := hC g z w a b) (d0 := 0) GX11_in kX11_told_20 rfl rfl (Nat.le_of_ble_eq_true rfl) (Nat.le_of_ble_eq_true rfl) rfl trivial (in_yes (v := (15 : Int32)) (lo := (10 : Int32)) (hi := (15 : Int32)) (by decide)) (Nat.le_of_ble_eq_true rfl) rfl (Nat.le_of_ble_eq_true rfl) (Nat.le_of_ble_eq_true rfl) rfl rfl ?_
  refine P0.b GX11_told 1 (ob := []) (cf' := (if (1 : Int32) = 0 then 35 else 26, [some (.ref 0), some (.int of), some (.int 15)], [], hC g z w a b)) rfl trivial ?_
  rw [if_neg (show ¬ ((1 : Int32) = 0) from by decide)]
  refine P0.b GX11_told 3 (ob := []) (cf' := (29, [some (.ref 0), some (.int of), some (.int 15)], [.int of, .int 15, .ref 0], hC g z w a b)) rfl trivial ?_
  refine P0.cd (d0 := 2) (as := [.ref 0, .int 15, .int of]) (rest := []) (r1 := some (.int (if 0 ≤ of ∧ of ≤ g 11 - 1 then 1 else 0))) (h1 := hC g z w a b) (st' := [.int (if 0 ≤ of ∧ of ≤ g 11 - 1 then 1 else 0)]) GX11_isOf kX11_told_29 rfl ⟨_, _, rfl, rfl, .inl ⟨_, _, _, _, rfl, rfl⟩⟩ (Nat.le_of_ble_eq_true rfl) (Nat.le_of_ble_eq_true rfl) (isOf_15 of) (Nat.le_of_ble_eq_true rfl) rfl (Nat.le_of_ble_eq_true rfl) rfl ?_
  refine P0.b GX11_told 1 (ob := []) (cf' := (if (if 0 ≤ of ∧ of ≤ g 11 - 1 then 1 else 0) = 0 then 35 else 38, [some (.ref 0), some (.int of), some (.int 15)], [], hC g z w a b)) rfl trivial ?_
  refine P0.ifB (fun h1 => ?_) (fun h1 => ?_)
  · refine P0.b GX11_told 1 (ob := []) (cf' := (37, [some (.ref 0), some (.int of), some (.int 15)], [.int (-2)], hC g z w a b)) rfl trivial ?_
    exact P0.ri (by decide +kernel) rfl rfl ⟨_, _, (by rw [if_neg h1]), rfl⟩
  · refine P0.b GX11_told 3 (ob := []) (cf' := (if (15 : Int32) ≤ 9 then 54 else 44, [some (.ref 0), some (.int of), some (.int 15)], [], hC g z w a b)) rfl trivial ?_
    rw [if_neg (show ¬ ((15 : Int32) ≤ 9) from by decide)]
    refine P0.b GX11_told 5 (ob := []) (cf' := (50, [some (.ref 0), some (.int of), some (.int 15)], [.int (15 - 10), .int of, .ref 0], hC g z w a b)) rfl trivial ?_
    rw [show (15 - 10 : Int32) = 5 from by decide]
    refine P0.cs (as := [.ref 0, .int of, .int 5]) (rest := []) GX11_saysNow kX11_told_50 rfl ⟨_, _, rfl, rfl, .inl ⟨_, _, _, _, rfl, rfl⟩⟩ (Nat.le_of_ble_eq_true rfl) (Nat.le_of_ble_eq_true rfl) (P0.mono (e_X11_saysNow hr hS (wok hm hm6 hW h1) (row4 (x := 5) (by decide)) (row4' (x := 5) (by decide))) (Nat.le_of_ble_eq_true rfl) (Nat.zero_le _) (Nat.zero_le _) (fun _ _ q => q)) (Nat.le_of_ble_eq_true rfl) (fun _ _ ⟨_, _, _, q⟩ => q ▸ rfl) ?_
    rintro _ _ ⟨z76, w76, rfl, rfl⟩
    show P0 _ _ _ _ (53, [some (.ref 0), some (.int of), some (.int 15)], [.int (nowV a t (g 7) of 5)], hC g z76 w76 a b) _
    exact P0.ri (by decide +kernel) rfl rfl ⟨_, _, (by rw [if_pos h1]), rfl⟩
set_option maxHeartbeats 1000000 in
theorem told_no {g z : Nat → Int32} {w : Int64} {a b : Nat → Nat → Int32} (of what : Int32) (h6 : ¬ (0 ≤ what ∧ what ≤ 6)) (h15 : ¬ (10 ≤ what ∧ what ≤ 15)) : P0 45 0 0 mX11_told (0, ent 3 [.ref 0, .int of, .int what], [], hC g z w a b) (fun r h' => r = some (.int (-2)) ∧ h' = hC g z w a b) := by
  refine P0.b GX11_told 4 (ob := []) (cf' := (6, [some (.ref 0), some (.int of), some (.int what)], [.long 6, .long 0, .long what.toInt64], hC g z w a b)) rfl trivial ?_
  refine P0.cr (io := []) (as := [.long what.toInt64, .long ((0 : Int32).toInt64), .long ((6 : Int32).toInt64)]) (rest := []) (hc := []) (hc1 := []) (r1 := some (.int (if 0 ≤ what ∧ what ≤ 6 then 1 else 0))) (st' := [.int (if 0 ≤ what ∧ what ≤ 6 then 1 else 0)]) (h' := hC g z w a b) (d0 := 0) GX11_in kX11_told_6 rfl rfl (Nat.le_of_ble_eq_true rfl) (Nat.le_of_ble_eq_true rfl) rfl trivial (e_in32 what 0 6) (Nat.le_of_ble_eq_true rfl) rfl (Nat.le_of_ble_eq_true rfl) (Nat.le_of_ble_eq_true rfl) rfl rfl ?_
  refine P0.b GX11_told 1 (ob := []) (cf' := (if (if 0 ≤ what ∧ what ≤ 6 then 1 else 0) = 0 then 12 else 26, [some (.ref 0), some (.int of), some (.int what)], [], hC g z w a b)) rfl trivial ?_
  rw [if_neg (show ¬ (0 ≤ what ∧ what ≤ 6) from h6), if_pos rfl]
  refine P0.b GX11_told 4 (ob := []) (cf' := (20, [some (.ref 0), some (.int of), some (.int what)], [.long 15, .long 10, .long what.toInt64], hC g z w a b)) rfl trivial ?_
  refine P0.cr (io := []) (as := [.long what.toInt64, .long ((10 : Int32).toInt64), .long ((15 : Int32).toInt64)]) (rest := []) (hc := []) (hc1 := []) (r1 := some (.int (if 10 ≤ what ∧ what ≤ 15 then 1 else 0))) (st' := [.int (if 10 ≤ what ∧ what ≤ 15 then 1 else 0)]) (h' := hC g z w a b) (d0 := 0) GX11_in kX11_told_20 rfl rfl (Nat.le_of_ble_eq_true rfl) (Nat.le_of_ble_eq_true rfl) rfl trivial (e_in32 what 10 15) (Nat.le_of_ble_eq_true rfl) rfl (Nat.le_of_ble_eq_true rfl) (Nat.le_of_ble_eq_true rfl) rfl rfl ?_
  refine P0.b GX11_told 1 (ob := []) (cf' := (if (if 10 ≤ what ∧ what ≤ 15 then 1 else 0) = 0 then 35 else 26, [some (.ref 0), some (.int of), some (.int what)], [], hC g z w a b)) rfl trivial ?_
  rw [if_neg (show ¬ (10 ≤ what ∧ what ≤ 15) from h15), if_pos rfl]
  refine P0.b GX11_told 1 (ob := []) (cf' := (37, [some (.ref 0), some (.int of), some (.int what)], [.int (-2)], hC g z w a b)) rfl trivial ?_
  exact P0.ri (by decide +kernel) rfl rfl ⟨rfl, rfl⟩
theorem ifP {c : Prop} [Decidable c] {x y : Int32} {r : Option Value} (h : c) (q : r = some (.int (if c then x else y))) : r = some (.int x) := by rw [if_pos h] at q; exact q
theorem P0.told {d mc ms : Nat} {M : MI} {cf : CF} {c : Prop} [Decidable c] {x y : Int32} {h1 : PH} (hc : c) (h : P0 d mc ms M cf (fun r h' => r = some (.int (if c then x else y)) ∧ h' = h1)) : P0 d mc ms M cf (fun r h' => r = some (.int x) ∧ h' = h1) := P0.mono h (Nat.le_refl _) (Nat.le_refl _) (Nat.le_refl _) (fun _ _ q => ⟨ifP hc q.1, q.2⟩)
set_option maxHeartbeats 1000000 in
theorem mostOf_0  : P0 0 0 0 mX11_mostOf (0, ent 1 [.int 0], [], []) (fun r h' => r = some (.int 99) ∧ h' = []) := by
  refine P0.b GX11_mostOf 2 (ob := []) (cf' := (if (0 : Int32) = 0 then 4 else 9, [some (.int 0)], [], [])) rfl trivial ?_
  rw [if_pos (show ((0 : Int32) = 0) from by decide)]
  refine P0.b GX11_mostOf 2 (ob := []) (cf' := (39, [some (.int 0)], [.int 99], [])) rfl trivial ?_
  exact P0.ri (by decide +kernel) rfl rfl ⟨rfl, rfl⟩
set_option maxHeartbeats 1000000 in
theorem mostOf_1  : P0 0 0 0 mX11_mostOf (0, ent 1 [.int 1], [], []) (fun r h' => r = some (.int 3) ∧ h' = []) := by
  refine P0.b GX11_mostOf 2 (ob := []) (cf' := (if (1 : Int32) = 0 then 4 else 9, [some (.int 1)], [], [])) rfl trivial ?_
  rw [if_neg (show ¬ ((1 : Int32) = 0) from by decide)]
  refine P0.b GX11_mostOf 3 (ob := []) (cf' := (if (1 : Int32) = 1 then 14 else 18, [some (.int 1)], [], [])) rfl trivial ?_
  rw [if_pos (show ((1 : Int32) = 1) from by decide)]
  refine P0.b GX11_mostOf 2 (ob := []) (cf' := (39, [some (.int 1)], [.int 3], [])) rfl trivial ?_
  exact P0.ri (by decide +kernel) rfl rfl ⟨rfl, rfl⟩
set_option maxHeartbeats 1000000 in
theorem mostOf_2  : P0 0 0 0 mX11_mostOf (0, ent 1 [.int 2], [], []) (fun r h' => r = some (.int 9) ∧ h' = []) := by
  refine P0.b GX11_mostOf 2 (ob := []) (cf' := (if (2 : Int32) = 0 then 4 else 9, [some (.int 2)], [], [])) rfl trivial ?_
  rw [if_neg (show ¬ ((2 : Int32) = 0) from by decide)]
  refine P0.b GX11_mostOf 3 (ob := []) (cf' := (if (2 : Int32) = 1 then 14 else 18, [some (.int 2)], [], [])) rfl trivial ?_
  rw [if_neg (show ¬ ((2 : Int32) = 1) from by decide)]
  refine P0.b GX11_mostOf 3 (ob := []) (cf' := (if (2 : Int32) = 2 then 23 else 28, [some (.int 2)], [], [])) rfl trivial ?_
  rw [if_pos (show ((2 : Int32) = 2) from by decide)]
  refine P0.b GX11_mostOf 2 (ob := []) (cf' := (39, [some (.int 2)], [.int 9], [])) rfl trivial ?_
  exact P0.ri (by decide +kernel) rfl rfl ⟨rfl, rfl⟩
set_option maxHeartbeats 1000000 in
theorem mostOf_3  : P0 0 0 0 mX11_mostOf (0, ent 1 [.int 3], [], []) (fun r h' => r = some (.int 63) ∧ h' = []) := by
  refine P0.b GX11_mostOf 2 (ob := []) (cf' := (if (3 : Int32) = 0 then 4 else 9, [some (.int 3)], [], [])) rfl trivial ?_
  rw [if_neg (show ¬ ((3 : Int32) = 0) from by decide)]
  refine P0.b GX11_mostOf 3 (ob := []) (cf' := (if (3 : Int32) = 1 then 14 else 18, [some (.int 3)], [], [])) rfl trivial ?_
  rw [if_neg (show ¬ ((3 : Int32) = 1) from by decide)]
  refine P0.b GX11_mostOf 3 (ob := []) (cf' := (if (3 : Int32) = 2 then 23 else 28, [some (.int 3)], [], [])) rfl trivial ?_
  rw [if_neg (show ¬ ((3 : Int32) = 2) from by decide)]
  refine P0.b GX11_mostOf 3 (ob := []) (cf' := (if (3 : Int32) = 3 then 33 else 38, [some (.int 3)], [], [])) rfl trivial ?_
  rw [if_pos (show ((3 : Int32) = 3) from by decide)]
  refine P0.b GX11_mostOf 2 (ob := []) (cf' := (39, [some (.int 3)], [.int 63], [])) rfl trivial ?_
  exact P0.ri (by decide +kernel) rfl rfl ⟨rfl, rfl⟩
set_option maxHeartbeats 1000000 in
theorem mostOf_4  : P0 0 0 0 mX11_mostOf (0, ent 1 [.int 4], [], []) (fun r h' => r = some (.int 1) ∧ h' = []) := by
  refine P0.b GX11_mostOf 2 (ob := []) (cf' := (if (4 : Int32) = 0 then 4 else 9, [some (.int 4)], [], [])) rfl trivial ?_
  rw [if_neg (show ¬ ((4 : Int32) = 0) from by decide)]
  refine P0.b GX11_mostOf 3 (ob := []) (cf' := (if (4 : Int32) = 1 then 14 else 18, [some (.int 4)], [], [])) rfl trivial ?_
  rw [if_neg (show ¬ ((4 : Int32) = 1) from by decide)]
  refine P0.b GX11_mostOf 3 (ob := []) (cf' := (if (4 : Int32) = 2 then 23 else 28, [some (.int 4)], [], [])) rfl trivial ?_
  rw [if_neg (show ¬ ((4 : Int32) = 2) from by decide)]
  refine P0.b GX11_mostOf 3 (ob := []) (cf' := (if (4 : Int32) = 3 then 33 else 38, [some (.int 4)], [], [])) rfl trivial ?_
  rw [if_neg (show ¬ ((4 : Int32) = 3) from by decide)]
  refine P0.b GX11_mostOf 1 (ob := []) (cf' := (39, [some (.int 4)], [.int 1], [])) rfl trivial ?_
  exact P0.ri (by decide +kernel) rfl rfl ⟨rfl, rfl⟩
set_option maxHeartbeats 1000000 in
theorem set_0 {g z : Nat → Int32} {w : Int64} {a b : Nat → Nat → Int32} {t m : Nat} (hr : g 4 = nI t) (hS : Std1 a t) (hm : g 11 = nI m) (hm6 : m ≤ 6) (hW : ∀ i, i < m → WOK a (nI i)) (of v : Int32) : P0 46 0 0 mX11_set (0, ent 5 [.ref 0, .int 0, .int of, .int v], [], hC g z w a b) (fun r h' => r = some (.int (if 0 ≤ v ∧ v ≤ 99 then g 7 else -2)) ∧ h' = hC (if 0 ≤ v ∧ v ≤ 99 then (upd g 7 v) else g) z w (if 0 ≤ v ∧ v ≤ 99 then a else a) b) := by
  refine P0.b GX11_set 4 (ob := []) (cf' := (6, [some (.ref 0), some (.int 0), some (.int of), some (.int v), none], [.long 4, .long 0, .long ((0 : Int32).toInt64)], hC g z w a b)) rfl trivial ?_
  refine P0.cr (io := []) (as := [.long ((0 : Int32).toInt64), .long ((0 : Int32).toInt64), .long ((4 : Int32).toInt64)]) (rest := []) (hc := []) (hc1 := []) (r1 := some (.int 1)) (st' := [.int 1]) (h' := hC g z w a b) (d0 := 0) GX11_in kX11_set_6 rfl rfl (Nat.le_of_ble_eq_true rfl) (Nat.le_of_ble_eq_true rfl) rfl trivial (in_yes (v := (0 : Int32)) (lo := (0 : Int32)) (hi := (4 : Int32)) (by decide)) (Nat.le_of_ble_eq_true rfl) rfl (Nat.le_of_ble_eq_true rfl) (Nat.le_of_ble_eq_true rfl) rfl rfl ?_
  refine P0.b GX11_set 1 (ob := []) (cf' := (if (1 : Int32) = 0 then 35 else 12, [some (.ref 0), some (.int 0), some (.int of), some (.int v), none], [], hC g z w a b)) rfl trivial ?_
  rw [if_neg (show ¬ ((1 : Int32) = 0) from by decide)]
  refine P0.b GX11_set 3 (ob := []) (cf' := (15, [some (.ref 0), some (.int 0), some (.int of), some (.int v), none], [.int of, .int 0, .ref 0], hC g z w a b)) rfl trivial ?_
  refine P0.cd (d0 := 2) (as := [.ref 0, .int 0, .int of]) (rest := []) (r1 := some (.int 1)) (h1 := hC g z w a b) (st' := [.int 1]) GX11_isOf kX11_set_15 rfl ⟨_, _, rfl, rfl, .inl ⟨_, _, _, _, rfl, rfl⟩⟩ (Nat.le_of_ble_eq_true rfl) (Nat.le_of_ble_eq_true rfl) (isOf_0 of) (Nat.le_of_ble_eq_true rfl) rfl (Nat.le_of_ble_eq_true rfl) rfl ?_
  refine P0.b GX11_set 1 (ob := []) (cf' := (if (1 : Int32) = 0 then 35 else 21, [some (.ref 0), some (.int 0), some (.int of), some (.int v), none], [], hC g z w a b)) rfl trivial ?_
  rw [if_neg (show ¬ ((1 : Int32) = 0) from by decide)]
  refine P0.b GX11_set 4 (ob := []) (cf' := (25, [some (.ref 0), some (.int 0), some (.int of), some (.int v), none], [.int 0, .long 0, .long v.toInt64], hC g z w a b)) rfl trivial ?_
  refine P0.cr (io := []) (as := [.int 0]) (rest := [.long 0, .long v.toInt64]) (hc := []) (hc1 := []) (r1 := some (.int 99)) (st' := [.int 99, .long 0, .long v.toInt64]) (h' := hC g z w a b) (d0 := 0) GX11_mostOf kX11_set_25 rfl rfl (Nat.le_of_ble_eq_true rfl) (Nat.le_of_ble_eq_true rfl) rfl trivial (mostOf_0) (Nat.le_of_ble_eq_true rfl) rfl (Nat.le_of_ble_eq_true rfl) (Nat.le_of_ble_eq_true rfl) rfl rfl ?_
  refine P0.b GX11_set 1 (ob := []) (cf' := (29, [some (.ref 0), some (.int 0), some (.int of), some (.int v), none], [.long ((99 : Int32).toInt64), .long 0, .long v.toInt64], hC g z w a b)) rfl trivial ?_
  refine P0.cr (io := []) (as := [.long v.toInt64, .long ((0 : Int32).toInt64), .long ((99 : Int32).toInt64)]) (rest := []) (hc := []) (hc1 := []) (r1 := some (.int (if 0 ≤ v ∧ v ≤ 99 then 1 else 0))) (st' := [.int (if 0 ≤ v ∧ v ≤ 99 then 1 else 0)]) (h' := hC g z w a b) (d0 := 0) GX11_in kX11_set_29 rfl rfl (Nat.le_of_ble_eq_true rfl) (Nat.le_of_ble_eq_true rfl) rfl trivial (e_in32 v 0 99) (Nat.le_of_ble_eq_true rfl) rfl (Nat.le_of_ble_eq_true rfl) (Nat.le_of_ble_eq_true rfl) rfl rfl ?_
  refine P0.b GX11_set 1 (ob := []) (cf' := (if (if 0 ≤ v ∧ v ≤ 99 then 1 else 0) = 0 then 35 else 38, [some (.ref 0), some (.int 0), some (.int of), some (.int v), none], [], hC g z w a b)) rfl trivial ?_
  refine P0.ifB (fun h1 => ?_) (fun h1 => ?_)
  · refine P0.b GX11_set 1 (ob := []) (cf' := (37, [some (.ref 0), some (.int 0), some (.int of), some (.int v), none], [.int (-2)], hC g z w a b)) rfl trivial ?_
    exact P0.ri (by decide +kernel) rfl rfl ⟨(by rw [if_neg h1]), (by rw [if_neg h1, if_neg h1])⟩
  · refine P0.b GX11_set 3 (ob := []) (cf' := (41, [some (.ref 0), some (.int 0), some (.int of), some (.int v), none], [.int 0, .int of, .ref 0], hC g z w a b)) rfl trivial ?_
    refine P0.cd (d0 := 45) (as := [.ref 0, .int of, .int 0]) (rest := []) (r1 := some (.int (g 7))) (h1 := hC g z w a b) (st' := [.int (g 7)]) GX11_told kX11_set_41 rfl ⟨_, _, rfl, rfl, .inl ⟨_, _, _, _, rfl, rfl⟩⟩ (Nat.le_of_ble_eq_true rfl) (Nat.le_of_ble_eq_true rfl) (told_0 hr hS hm hm6 hW of) (Nat.le_of_ble_eq_true rfl) rfl (Nat.le_of_ble_eq_true rfl) rfl ?_
    refine P0.b GX11_set 5 (ob := []) (cf' := (50, [some (.ref 0), some (.int 0), some (.int of), some (.int v), some (.int (g 7))], [.int v, .int of, .int 0, .ref 0], hC g z w a b)) rfl trivial ?_
    refine P0.cd (d0 := 0) (as := [.ref 0, .int 0, .int of, .int v]) (rest := []) (r1 := none) (h1 := hC (upd g 7 v) z w a b) (st' := []) GX11_lays kX11_set_50 rfl ⟨_, _, rfl, rfl, .inl ⟨_, _, _, _, rfl, rfl⟩⟩ (Nat.le_of_ble_eq_true rfl) (Nat.le_of_ble_eq_true rfl) (lays_0 (of := of) v) (Nat.le_of_ble_eq_true rfl) rfl (Nat.le_of_ble_eq_true rfl) rfl ?_
    refine P0.b GX11_set 1 (ob := []) (cf' := (55, [some (.ref 0), some (.int 0), some (.int of), some (.int v), some (.int (g 7))], [.int (g 7)], hC (upd g 7 v) z w a b)) rfl trivial ?_
    exact P0.ri (by decide +kernel) rfl rfl ⟨(by rw [if_pos h1]), (by rw [if_pos h1, if_pos h1])⟩
set_option maxHeartbeats 1000000 in
theorem set_1 {g z : Nat → Int32} {w : Int64} {a b : Nat → Nat → Int32} {t m : Nat} (hr : g 4 = nI t) (hS : Std1 a t) (hm : g 11 = nI m) (hm6 : m ≤ 6) (hW : ∀ i, i < m → WOK a (nI i)) (of v : Int32) : P0 46 0 0 mX11_set (0, ent 5 [.ref 0, .int 1, .int of, .int v], [], hC g z w a b) (fun r h' => r = some (.int (if (0 ≤ of ∧ of ≤ 5) ∧ 0 ≤ v ∧ v ≤ 3 then a 4 of.toNatClampNeg else -2)) ∧ h' = hC (if (0 ≤ of ∧ of ≤ 5) ∧ 0 ≤ v ∧ v ≤ 3 then g else g) z w (if (0 ≤ of ∧ of ≤ 5) ∧ 0 ≤ v ∧ v ≤ 3 then (up2 a 4 (upd (a 4) of.toNatClampNeg v)) else a) b) := by
  refine P0.b GX11_set 4 (ob := []) (cf' := (6, [some (.ref 0), some (.int 1), some (.int of), some (.int v), none], [.long 4, .long 0, .long ((1 : Int32).toInt64)], hC g z w a b)) rfl trivial ?_
  refine P0.cr (io := []) (as := [.long ((1 : Int32).toInt64), .long ((0 : Int32).toInt64), .long ((4 : Int32).toInt64)]) (rest := []) (hc := []) (hc1 := []) (r1 := some (.int 1)) (st' := [.int 1]) (h' := hC g z w a b) (d0 := 0) GX11_in kX11_set_6 rfl rfl (Nat.le_of_ble_eq_true rfl) (Nat.le_of_ble_eq_true rfl) rfl trivial (in_yes (v := (1 : Int32)) (lo := (0 : Int32)) (hi := (4 : Int32)) (by decide)) (Nat.le_of_ble_eq_true rfl) rfl (Nat.le_of_ble_eq_true rfl) (Nat.le_of_ble_eq_true rfl) rfl rfl ?_
  refine P0.b GX11_set 1 (ob := []) (cf' := (if (1 : Int32) = 0 then 35 else 12, [some (.ref 0), some (.int 1), some (.int of), some (.int v), none], [], hC g z w a b)) rfl trivial ?_
  rw [if_neg (show ¬ ((1 : Int32) = 0) from by decide)]
  refine P0.b GX11_set 3 (ob := []) (cf' := (15, [some (.ref 0), some (.int 1), some (.int of), some (.int v), none], [.int of, .int 1, .ref 0], hC g z w a b)) rfl trivial ?_
  refine P0.cd (d0 := 2) (as := [.ref 0, .int 1, .int of]) (rest := []) (r1 := some (.int (if 0 ≤ of ∧ of ≤ 5 then 1 else 0))) (h1 := hC g z w a b) (st' := [.int (if 0 ≤ of ∧ of ≤ 5 then 1 else 0)]) GX11_isOf kX11_set_15 rfl ⟨_, _, rfl, rfl, .inl ⟨_, _, _, _, rfl, rfl⟩⟩ (Nat.le_of_ble_eq_true rfl) (Nat.le_of_ble_eq_true rfl) (isOf_1 of) (Nat.le_of_ble_eq_true rfl) rfl (Nat.le_of_ble_eq_true rfl) rfl ?_
  refine P0.b GX11_set 1 (ob := []) (cf' := (if (if 0 ≤ of ∧ of ≤ 5 then 1 else 0) = 0 then 35 else 21, [some (.ref 0), some (.int 1), some (.int of), some (.int v), none], [], hC g z w a b)) rfl trivial ?_
  refine P0.ifB (fun h1 => ?_) (fun h1 => ?_)
  · refine P0.b GX11_set 1 (ob := []) (cf' := (37, [some (.ref 0), some (.int 1), some (.int of), some (.int v), none], [.int (-2)], hC g z w a b)) rfl trivial ?_
    exact P0.ri (by decide +kernel) rfl rfl ⟨(by rw [if_neg (fun z => h1 z.1)]), (by rw [if_neg (fun z => h1 z.1), if_neg (fun z => h1 z.1)])⟩
  · refine P0.b GX11_set 4 (ob := []) (cf' := (25, [some (.ref 0), some (.int 1), some (.int of), some (.int v), none], [.int 1, .long 0, .long v.toInt64], hC g z w a b)) rfl trivial ?_
    refine P0.cr (io := []) (as := [.int 1]) (rest := [.long 0, .long v.toInt64]) (hc := []) (hc1 := []) (r1 := some (.int 3)) (st' := [.int 3, .long 0, .long v.toInt64]) (h' := hC g z w a b) (d0 := 0) GX11_mostOf kX11_set_25 rfl rfl (Nat.le_of_ble_eq_true rfl) (Nat.le_of_ble_eq_true rfl) rfl trivial (mostOf_1) (Nat.le_of_ble_eq_true rfl) rfl (Nat.le_of_ble_eq_true rfl) (Nat.le_of_ble_eq_true rfl) rfl rfl ?_
    refine P0.b GX11_set 1 (ob := []) (cf' := (29, [some (.ref 0), some (.int 1), some (.int of), some (.int v), none], [.long ((3 : Int32).toInt64), .long 0, .long v.toInt64], hC g z w a b)) rfl trivial ?_
    refine P0.cr (io := []) (as := [.long v.toInt64, .long ((0 : Int32).toInt64), .long ((3 : Int32).toInt64)]) (rest := []) (hc := []) (hc1 := []) (r1 := some (.int (if 0 ≤ v ∧ v ≤ 3 then 1 else 0))) (st' := [.int (if 0 ≤ v ∧ v ≤ 3 then 1 else 0)]) (h' := hC g z w a b) (d0 := 0) GX11_in kX11_set_29 rfl rfl (Nat.le_of_ble_eq_true rfl) (Nat.le_of_ble_eq_true rfl) rfl trivial (e_in32 v 0 3) (Nat.le_of_ble_eq_true rfl) rfl (Nat.le_of_ble_eq_true rfl) (Nat.le_of_ble_eq_true rfl) rfl rfl ?_
    refine P0.b GX11_set 1 (ob := []) (cf' := (if (if 0 ≤ v ∧ v ≤ 3 then 1 else 0) = 0 then 35 else 38, [some (.ref 0), some (.int 1), some (.int of), some (.int v), none], [], hC g z w a b)) rfl trivial ?_
    refine P0.ifB (fun h2 => ?_) (fun h2 => ?_)
    · refine P0.b GX11_set 1 (ob := []) (cf' := (37, [some (.ref 0), some (.int 1), some (.int of), some (.int v), none], [.int (-2)], hC g z w a b)) rfl trivial ?_
      exact P0.ri (by decide +kernel) rfl rfl ⟨(by rw [if_neg (fun z => h2 z.2)]), (by rw [if_neg (fun z => h2 z.2), if_neg (fun z => h2 z.2)])⟩
    · refine P0.b GX11_set 3 (ob := []) (cf' := (41, [some (.ref 0), some (.int 1), some (.int of), some (.int v), none], [.int 1, .int of, .ref 0], hC g z w a b)) rfl trivial ?_
      refine P0.cd (d0 := 45) (as := [.ref 0, .int of, .int 1]) (rest := []) (r1 := some (.int (a 4 of.toNatClampNeg))) (h1 := hC g z w a b) (st' := [.int (a 4 of.toNatClampNeg)]) GX11_told kX11_set_41 rfl ⟨_, _, rfl, rfl, .inl ⟨_, _, _, _, rfl, rfl⟩⟩ (Nat.le_of_ble_eq_true rfl) (Nat.le_of_ble_eq_true rfl) (P0.told h1 (told_1 hr hS hm hm6 hW of)) (Nat.le_of_ble_eq_true rfl) rfl (Nat.le_of_ble_eq_true rfl) rfl ?_
      refine P0.b GX11_set 5 (ob := []) (cf' := (50, [some (.ref 0), some (.int 1), some (.int of), some (.int v), some (.int (a 4 of.toNatClampNeg))], [.int v, .int of, .int 1, .ref 0], hC g z w a b)) rfl trivial ?_
      refine P0.cd (d0 := 0) (as := [.ref 0, .int 1, .int of, .int v]) (rest := []) (r1 := none) (h1 := hC g z w (up2 a 4 (upd (a 4) of.toNatClampNeg v)) b) (st' := []) GX11_lays kX11_set_50 rfl ⟨_, _, rfl, rfl, .inl ⟨_, _, _, _, rfl, rfl⟩⟩ (Nat.le_of_ble_eq_true rfl) (Nat.le_of_ble_eq_true rfl) (lays_1 (of := of) (st_in h1) v) (Nat.le_of_ble_eq_true rfl) rfl (Nat.le_of_ble_eq_true rfl) rfl ?_
      refine P0.b GX11_set 1 (ob := []) (cf' := (55, [some (.ref 0), some (.int 1), some (.int of), some (.int v), some (.int (a 4 of.toNatClampNeg))], [.int (a 4 of.toNatClampNeg)], hC g z w (up2 a 4 (upd (a 4) of.toNatClampNeg v)) b)) rfl trivial ?_
      exact P0.ri (by decide +kernel) rfl rfl ⟨(by rw [if_pos ⟨h1, h2⟩]), (by rw [if_pos ⟨h1, h2⟩, if_pos ⟨h1, h2⟩])⟩
set_option maxHeartbeats 1000000 in
theorem set_2 {g z : Nat → Int32} {w : Int64} {a b : Nat → Nat → Int32} {t m : Nat} (hr : g 4 = nI t) (hS : Std1 a t) (hm : g 11 = nI m) (hm6 : m ≤ 6) (hW : ∀ i, i < m → WOK a (nI i)) (of v : Int32) : P0 46 0 0 mX11_set (0, ent 5 [.ref 0, .int 2, .int of, .int v], [], hC g z w a b) (fun r h' => r = some (.int (if (0 ≤ of ∧ of ≤ g 11 - 1) ∧ 0 ≤ v ∧ v ≤ 9 then a 6 (3 * of).toNatClampNeg else -2)) ∧ h' = hC (if (0 ≤ of ∧ of ≤ g 11 - 1) ∧ 0 ≤ v ∧ v ≤ 9 then g else g) z w (if (0 ≤ of ∧ of ≤ g 11 - 1) ∧ 0 ≤ v ∧ v ≤ 9 then (up2 a 6 (upd (a 6) (3 * of).toNatClampNeg v)) else a) b) := by
  refine P0.b GX11_set 4 (ob := []) (cf' := (6, [some (.ref 0), some (.int 2), some (.int of), some (.int v), none], [.long 4, .long 0, .long ((2 : Int32).toInt64)], hC g z w a b)) rfl trivial ?_
  refine P0.cr (io := []) (as := [.long ((2 : Int32).toInt64), .long ((0 : Int32).toInt64), .long ((4 : Int32).toInt64)]) (rest := []) (hc := []) (hc1 := []) (r1 := some (.int 1)) (st' := [.int 1]) (h' := hC g z w a b) (d0 := 0) GX11_in kX11_set_6 rfl rfl (Nat.le_of_ble_eq_true rfl) (Nat.le_of_ble_eq_true rfl) rfl trivial (in_yes (v := (2 : Int32)) (lo := (0 : Int32)) (hi := (4 : Int32)) (by decide)) (Nat.le_of_ble_eq_true rfl) rfl (Nat.le_of_ble_eq_true rfl) (Nat.le_of_ble_eq_true rfl) rfl rfl ?_
  refine P0.b GX11_set 1 (ob := []) (cf' := (if (1 : Int32) = 0 then 35 else 12, [some (.ref 0), some (.int 2), some (.int of), some (.int v), none], [], hC g z w a b)) rfl trivial ?_
  rw [if_neg (show ¬ ((1 : Int32) = 0) from by decide)]
  refine P0.b GX11_set 3 (ob := []) (cf' := (15, [some (.ref 0), some (.int 2), some (.int of), some (.int v), none], [.int of, .int 2, .ref 0], hC g z w a b)) rfl trivial ?_
  refine P0.cd (d0 := 2) (as := [.ref 0, .int 2, .int of]) (rest := []) (r1 := some (.int (if 0 ≤ of ∧ of ≤ g 11 - 1 then 1 else 0))) (h1 := hC g z w a b) (st' := [.int (if 0 ≤ of ∧ of ≤ g 11 - 1 then 1 else 0)]) GX11_isOf kX11_set_15 rfl ⟨_, _, rfl, rfl, .inl ⟨_, _, _, _, rfl, rfl⟩⟩ (Nat.le_of_ble_eq_true rfl) (Nat.le_of_ble_eq_true rfl) (isOf_2 of) (Nat.le_of_ble_eq_true rfl) rfl (Nat.le_of_ble_eq_true rfl) rfl ?_
  refine P0.b GX11_set 1 (ob := []) (cf' := (if (if 0 ≤ of ∧ of ≤ g 11 - 1 then 1 else 0) = 0 then 35 else 21, [some (.ref 0), some (.int 2), some (.int of), some (.int v), none], [], hC g z w a b)) rfl trivial ?_
  refine P0.ifB (fun h1 => ?_) (fun h1 => ?_)
  · refine P0.b GX11_set 1 (ob := []) (cf' := (37, [some (.ref 0), some (.int 2), some (.int of), some (.int v), none], [.int (-2)], hC g z w a b)) rfl trivial ?_
    exact P0.ri (by decide +kernel) rfl rfl ⟨(by rw [if_neg (fun z => h1 z.1)]), (by rw [if_neg (fun z => h1 z.1), if_neg (fun z => h1 z.1)])⟩
  · refine P0.b GX11_set 4 (ob := []) (cf' := (25, [some (.ref 0), some (.int 2), some (.int of), some (.int v), none], [.int 2, .long 0, .long v.toInt64], hC g z w a b)) rfl trivial ?_
    refine P0.cr (io := []) (as := [.int 2]) (rest := [.long 0, .long v.toInt64]) (hc := []) (hc1 := []) (r1 := some (.int 9)) (st' := [.int 9, .long 0, .long v.toInt64]) (h' := hC g z w a b) (d0 := 0) GX11_mostOf kX11_set_25 rfl rfl (Nat.le_of_ble_eq_true rfl) (Nat.le_of_ble_eq_true rfl) rfl trivial (mostOf_2) (Nat.le_of_ble_eq_true rfl) rfl (Nat.le_of_ble_eq_true rfl) (Nat.le_of_ble_eq_true rfl) rfl rfl ?_
    refine P0.b GX11_set 1 (ob := []) (cf' := (29, [some (.ref 0), some (.int 2), some (.int of), some (.int v), none], [.long ((9 : Int32).toInt64), .long 0, .long v.toInt64], hC g z w a b)) rfl trivial ?_
    refine P0.cr (io := []) (as := [.long v.toInt64, .long ((0 : Int32).toInt64), .long ((9 : Int32).toInt64)]) (rest := []) (hc := []) (hc1 := []) (r1 := some (.int (if 0 ≤ v ∧ v ≤ 9 then 1 else 0))) (st' := [.int (if 0 ≤ v ∧ v ≤ 9 then 1 else 0)]) (h' := hC g z w a b) (d0 := 0) GX11_in kX11_set_29 rfl rfl (Nat.le_of_ble_eq_true rfl) (Nat.le_of_ble_eq_true rfl) rfl trivial (e_in32 v 0 9) (Nat.le_of_ble_eq_true rfl) rfl (Nat.le_of_ble_eq_true rfl) (Nat.le_of_ble_eq_true rfl) rfl rfl ?_
    refine P0.b GX11_set 1 (ob := []) (cf' := (if (if 0 ≤ v ∧ v ≤ 9 then 1 else 0) = 0 then 35 else 38, [some (.ref 0), some (.int 2), some (.int of), some (.int v), none], [], hC g z w a b)) rfl trivial ?_
    refine P0.ifB (fun h2 => ?_) (fun h2 => ?_)
    · refine P0.b GX11_set 1 (ob := []) (cf' := (37, [some (.ref 0), some (.int 2), some (.int of), some (.int v), none], [.int (-2)], hC g z w a b)) rfl trivial ?_
      exact P0.ri (by decide +kernel) rfl rfl ⟨(by rw [if_neg (fun z => h2 z.2)]), (by rw [if_neg (fun z => h2 z.2), if_neg (fun z => h2 z.2)])⟩
    · refine P0.b GX11_set 3 (ob := []) (cf' := (41, [some (.ref 0), some (.int 2), some (.int of), some (.int v), none], [.int 2, .int of, .ref 0], hC g z w a b)) rfl trivial ?_
      refine P0.cd (d0 := 45) (as := [.ref 0, .int of, .int 2]) (rest := []) (r1 := some (.int (a 6 (3 * of).toNatClampNeg))) (h1 := hC g z w a b) (st' := [.int (a 6 (3 * of).toNatClampNeg)]) GX11_told kX11_set_41 rfl ⟨_, _, rfl, rfl, .inl ⟨_, _, _, _, rfl, rfl⟩⟩ (Nat.le_of_ble_eq_true rfl) (Nat.le_of_ble_eq_true rfl) (P0.told h1 (told_2 hr hS hm hm6 hW of)) (Nat.le_of_ble_eq_true rfl) rfl (Nat.le_of_ble_eq_true rfl) rfl ?_
      refine P0.b GX11_set 5 (ob := []) (cf' := (50, [some (.ref 0), some (.int 2), some (.int of), some (.int v), some (.int (a 6 (3 * of).toNatClampNeg))], [.int v, .int of, .int 2, .ref 0], hC g z w a b)) rfl trivial ?_
      refine P0.cd (d0 := 0) (as := [.ref 0, .int 2, .int of, .int v]) (rest := []) (r1 := none) (h1 := hC g z w (up2 a 6 (upd (a 6) (3 * of).toNatClampNeg v)) b) (st' := []) GX11_lays kX11_set_50 rfl ⟨_, _, rfl, rfl, .inl ⟨_, _, _, _, rfl, rfl⟩⟩ (Nat.le_of_ble_eq_true rfl) (Nat.le_of_ble_eq_true rfl) (lays_2 (of := of) (wok hm hm6 hW h1).2.1 v) (Nat.le_of_ble_eq_true rfl) rfl (Nat.le_of_ble_eq_true rfl) rfl ?_
      refine P0.b GX11_set 1 (ob := []) (cf' := (55, [some (.ref 0), some (.int 2), some (.int of), some (.int v), some (.int (a 6 (3 * of).toNatClampNeg))], [.int (a 6 (3 * of).toNatClampNeg)], hC g z w (up2 a 6 (upd (a 6) (3 * of).toNatClampNeg v)) b)) rfl trivial ?_
      exact P0.ri (by decide +kernel) rfl rfl ⟨(by rw [if_pos ⟨h1, h2⟩]), (by rw [if_pos ⟨h1, h2⟩, if_pos ⟨h1, h2⟩])⟩
set_option maxHeartbeats 1000000 in
theorem set_3 {g z : Nat → Int32} {w : Int64} {a b : Nat → Nat → Int32} {t m : Nat} (hr : g 4 = nI t) (hS : Std1 a t) (hm : g 11 = nI m) (hm6 : m ≤ 6) (hW : ∀ i, i < m → WOK a (nI i)) (of v : Int32) : P0 46 0 0 mX11_set (0, ent 5 [.ref 0, .int 3, .int of, .int v], [], hC g z w a b) (fun r h' => r = some (.int (if (0 ≤ of ∧ of ≤ g 11 - 1) ∧ 0 ≤ v ∧ v ≤ 63 then a 6 (3 * of + 1).toNatClampNeg else -2)) ∧ h' = hC (if (0 ≤ of ∧ of ≤ g 11 - 1) ∧ 0 ≤ v ∧ v ≤ 63 then g else g) z w (if (0 ≤ of ∧ of ≤ g 11 - 1) ∧ 0 ≤ v ∧ v ≤ 63 then (up2 a 6 (upd (a 6) (3 * of + 1).toNatClampNeg v)) else a) b) := by
  refine P0.b GX11_set 4 (ob := []) (cf' := (6, [some (.ref 0), some (.int 3), some (.int of), some (.int v), none], [.long 4, .long 0, .long ((3 : Int32).toInt64)], hC g z w a b)) rfl trivial ?_
  refine P0.cr (io := []) (as := [.long ((3 : Int32).toInt64), .long ((0 : Int32).toInt64), .long ((4 : Int32).toInt64)]) (rest := []) (hc := []) (hc1 := []) (r1 := some (.int 1)) (st' := [.int 1]) (h' := hC g z w a b) (d0 := 0) GX11_in kX11_set_6 rfl rfl (Nat.le_of_ble_eq_true rfl) (Nat.le_of_ble_eq_true rfl) rfl trivial (in_yes (v := (3 : Int32)) (lo := (0 : Int32)) (hi := (4 : Int32)) (by decide)) (Nat.le_of_ble_eq_true rfl) rfl (Nat.le_of_ble_eq_true rfl) (Nat.le_of_ble_eq_true rfl) rfl rfl ?_
  refine P0.b GX11_set 1 (ob := []) (cf' := (if (1 : Int32) = 0 then 35 else 12, [some (.ref 0), some (.int 3), some (.int of), some (.int v), none], [], hC g z w a b)) rfl trivial ?_
  rw [if_neg (show ¬ ((1 : Int32) = 0) from by decide)]
  refine P0.b GX11_set 3 (ob := []) (cf' := (15, [some (.ref 0), some (.int 3), some (.int of), some (.int v), none], [.int of, .int 3, .ref 0], hC g z w a b)) rfl trivial ?_
  refine P0.cd (d0 := 2) (as := [.ref 0, .int 3, .int of]) (rest := []) (r1 := some (.int (if 0 ≤ of ∧ of ≤ g 11 - 1 then 1 else 0))) (h1 := hC g z w a b) (st' := [.int (if 0 ≤ of ∧ of ≤ g 11 - 1 then 1 else 0)]) GX11_isOf kX11_set_15 rfl ⟨_, _, rfl, rfl, .inl ⟨_, _, _, _, rfl, rfl⟩⟩ (Nat.le_of_ble_eq_true rfl) (Nat.le_of_ble_eq_true rfl) (isOf_3 of) (Nat.le_of_ble_eq_true rfl) rfl (Nat.le_of_ble_eq_true rfl) rfl ?_
  refine P0.b GX11_set 1 (ob := []) (cf' := (if (if 0 ≤ of ∧ of ≤ g 11 - 1 then 1 else 0) = 0 then 35 else 21, [some (.ref 0), some (.int 3), some (.int of), some (.int v), none], [], hC g z w a b)) rfl trivial ?_
  refine P0.ifB (fun h1 => ?_) (fun h1 => ?_)
  · refine P0.b GX11_set 1 (ob := []) (cf' := (37, [some (.ref 0), some (.int 3), some (.int of), some (.int v), none], [.int (-2)], hC g z w a b)) rfl trivial ?_
    exact P0.ri (by decide +kernel) rfl rfl ⟨(by rw [if_neg (fun z => h1 z.1)]), (by rw [if_neg (fun z => h1 z.1), if_neg (fun z => h1 z.1)])⟩
  · refine P0.b GX11_set 4 (ob := []) (cf' := (25, [some (.ref 0), some (.int 3), some (.int of), some (.int v), none], [.int 3, .long 0, .long v.toInt64], hC g z w a b)) rfl trivial ?_
    refine P0.cr (io := []) (as := [.int 3]) (rest := [.long 0, .long v.toInt64]) (hc := []) (hc1 := []) (r1 := some (.int 63)) (st' := [.int 63, .long 0, .long v.toInt64]) (h' := hC g z w a b) (d0 := 0) GX11_mostOf kX11_set_25 rfl rfl (Nat.le_of_ble_eq_true rfl) (Nat.le_of_ble_eq_true rfl) rfl trivial (mostOf_3) (Nat.le_of_ble_eq_true rfl) rfl (Nat.le_of_ble_eq_true rfl) (Nat.le_of_ble_eq_true rfl) rfl rfl ?_
    refine P0.b GX11_set 1 (ob := []) (cf' := (29, [some (.ref 0), some (.int 3), some (.int of), some (.int v), none], [.long ((63 : Int32).toInt64), .long 0, .long v.toInt64], hC g z w a b)) rfl trivial ?_
    refine P0.cr (io := []) (as := [.long v.toInt64, .long ((0 : Int32).toInt64), .long ((63 : Int32).toInt64)]) (rest := []) (hc := []) (hc1 := []) (r1 := some (.int (if 0 ≤ v ∧ v ≤ 63 then 1 else 0))) (st' := [.int (if 0 ≤ v ∧ v ≤ 63 then 1 else 0)]) (h' := hC g z w a b) (d0 := 0) GX11_in kX11_set_29 rfl rfl (Nat.le_of_ble_eq_true rfl) (Nat.le_of_ble_eq_true rfl) rfl trivial (e_in32 v 0 63) (Nat.le_of_ble_eq_true rfl) rfl (Nat.le_of_ble_eq_true rfl) (Nat.le_of_ble_eq_true rfl) rfl rfl ?_
    refine P0.b GX11_set 1 (ob := []) (cf' := (if (if 0 ≤ v ∧ v ≤ 63 then 1 else 0) = 0 then 35 else 38, [some (.ref 0), some (.int 3), some (.int of), some (.int v), none], [], hC g z w a b)) rfl trivial ?_
    refine P0.ifB (fun h2 => ?_) (fun h2 => ?_)
    · refine P0.b GX11_set 1 (ob := []) (cf' := (37, [some (.ref 0), some (.int 3), some (.int of), some (.int v), none], [.int (-2)], hC g z w a b)) rfl trivial ?_
      exact P0.ri (by decide +kernel) rfl rfl ⟨(by rw [if_neg (fun z => h2 z.2)]), (by rw [if_neg (fun z => h2 z.2), if_neg (fun z => h2 z.2)])⟩
    · refine P0.b GX11_set 3 (ob := []) (cf' := (41, [some (.ref 0), some (.int 3), some (.int of), some (.int v), none], [.int 3, .int of, .ref 0], hC g z w a b)) rfl trivial ?_
      refine P0.cd (d0 := 45) (as := [.ref 0, .int of, .int 3]) (rest := []) (r1 := some (.int (a 6 (3 * of + 1).toNatClampNeg))) (h1 := hC g z w a b) (st' := [.int (a 6 (3 * of + 1).toNatClampNeg)]) GX11_told kX11_set_41 rfl ⟨_, _, rfl, rfl, .inl ⟨_, _, _, _, rfl, rfl⟩⟩ (Nat.le_of_ble_eq_true rfl) (Nat.le_of_ble_eq_true rfl) (P0.told h1 (told_3 hr hS hm hm6 hW of)) (Nat.le_of_ble_eq_true rfl) rfl (Nat.le_of_ble_eq_true rfl) rfl ?_
      refine P0.b GX11_set 5 (ob := []) (cf' := (50, [some (.ref 0), some (.int 3), some (.int of), some (.int v), some (.int (a 6 (3 * of + 1).toNatClampNeg))], [.int v, .int of, .int 3, .ref 0], hC g z w a b)) rfl trivial ?_
      refine P0.cd (d0 := 0) (as := [.ref 0, .int 3, .int of, .int v]) (rest := []) (r1 := none) (h1 := hC g z w (up2 a 6 (upd (a 6) (3 * of + 1).toNatClampNeg v)) b) (st' := []) GX11_lays kX11_set_50 rfl ⟨_, _, rfl, rfl, .inl ⟨_, _, _, _, rfl, rfl⟩⟩ (Nat.le_of_ble_eq_true rfl) (Nat.le_of_ble_eq_true rfl) (lays_3 (of := of) (wok hm hm6 hW h1).2.2.1 v) (Nat.le_of_ble_eq_true rfl) rfl (Nat.le_of_ble_eq_true rfl) rfl ?_
      refine P0.b GX11_set 1 (ob := []) (cf' := (55, [some (.ref 0), some (.int 3), some (.int of), some (.int v), some (.int (a 6 (3 * of + 1).toNatClampNeg))], [.int (a 6 (3 * of + 1).toNatClampNeg)], hC g z w (up2 a 6 (upd (a 6) (3 * of + 1).toNatClampNeg v)) b)) rfl trivial ?_
      exact P0.ri (by decide +kernel) rfl rfl ⟨(by rw [if_pos ⟨h1, h2⟩]), (by rw [if_pos ⟨h1, h2⟩, if_pos ⟨h1, h2⟩])⟩
set_option maxHeartbeats 1000000 in
theorem set_4 {g z : Nat → Int32} {w : Int64} {a b : Nat → Nat → Int32} {t m : Nat} (hr : g 4 = nI t) (hS : Std1 a t) (hm : g 11 = nI m) (hm6 : m ≤ 6) (hW : ∀ i, i < m → WOK a (nI i)) (of v : Int32) : P0 46 0 0 mX11_set (0, ent 5 [.ref 0, .int 4, .int of, .int v], [], hC g z w a b) (fun r h' => r = some (.int (if (0 ≤ of ∧ of ≤ g 11 - 1) ∧ 0 ≤ v ∧ v ≤ 1 then a 6 (3 * of + 2).toNatClampNeg else -2)) ∧ h' = hC (if (0 ≤ of ∧ of ≤ g 11 - 1) ∧ 0 ≤ v ∧ v ≤ 1 then g else g) z w (if (0 ≤ of ∧ of ≤ g 11 - 1) ∧ 0 ≤ v ∧ v ≤ 1 then (up2 a 6 (upd (a 6) (3 * of + 2).toNatClampNeg v)) else a) b) := by
  refine P0.b GX11_set 4 (ob := []) (cf' := (6, [some (.ref 0), some (.int 4), some (.int of), some (.int v), none], [.long 4, .long 0, .long ((4 : Int32).toInt64)], hC g z w a b)) rfl trivial ?_
  refine P0.cr (io := []) (as := [.long ((4 : Int32).toInt64), .long ((0 : Int32).toInt64), .long ((4 : Int32).toInt64)]) (rest := []) (hc := []) (hc1 := []) (r1 := some (.int 1)) (st' := [.int 1]) (h' := hC g z w a b) (d0 := 0) GX11_in kX11_set_6 rfl rfl (Nat.le_of_ble_eq_true rfl) (Nat.le_of_ble_eq_true rfl) rfl trivial (in_yes (v := (4 : Int32)) (lo := (0 : Int32)) (hi := (4 : Int32)) (by decide)) (Nat.le_of_ble_eq_true rfl) rfl (Nat.le_of_ble_eq_true rfl) (Nat.le_of_ble_eq_true rfl) rfl rfl ?_
  refine P0.b GX11_set 1 (ob := []) (cf' := (if (1 : Int32) = 0 then 35 else 12, [some (.ref 0), some (.int 4), some (.int of), some (.int v), none], [], hC g z w a b)) rfl trivial ?_
  rw [if_neg (show ¬ ((1 : Int32) = 0) from by decide)]
  refine P0.b GX11_set 3 (ob := []) (cf' := (15, [some (.ref 0), some (.int 4), some (.int of), some (.int v), none], [.int of, .int 4, .ref 0], hC g z w a b)) rfl trivial ?_
  refine P0.cd (d0 := 2) (as := [.ref 0, .int 4, .int of]) (rest := []) (r1 := some (.int (if 0 ≤ of ∧ of ≤ g 11 - 1 then 1 else 0))) (h1 := hC g z w a b) (st' := [.int (if 0 ≤ of ∧ of ≤ g 11 - 1 then 1 else 0)]) GX11_isOf kX11_set_15 rfl ⟨_, _, rfl, rfl, .inl ⟨_, _, _, _, rfl, rfl⟩⟩ (Nat.le_of_ble_eq_true rfl) (Nat.le_of_ble_eq_true rfl) (isOf_4 of) (Nat.le_of_ble_eq_true rfl) rfl (Nat.le_of_ble_eq_true rfl) rfl ?_
  refine P0.b GX11_set 1 (ob := []) (cf' := (if (if 0 ≤ of ∧ of ≤ g 11 - 1 then 1 else 0) = 0 then 35 else 21, [some (.ref 0), some (.int 4), some (.int of), some (.int v), none], [], hC g z w a b)) rfl trivial ?_
  refine P0.ifB (fun h1 => ?_) (fun h1 => ?_)
  · refine P0.b GX11_set 1 (ob := []) (cf' := (37, [some (.ref 0), some (.int 4), some (.int of), some (.int v), none], [.int (-2)], hC g z w a b)) rfl trivial ?_
    exact P0.ri (by decide +kernel) rfl rfl ⟨(by rw [if_neg (fun z => h1 z.1)]), (by rw [if_neg (fun z => h1 z.1), if_neg (fun z => h1 z.1)])⟩
  · refine P0.b GX11_set 4 (ob := []) (cf' := (25, [some (.ref 0), some (.int 4), some (.int of), some (.int v), none], [.int 4, .long 0, .long v.toInt64], hC g z w a b)) rfl trivial ?_
    refine P0.cr (io := []) (as := [.int 4]) (rest := [.long 0, .long v.toInt64]) (hc := []) (hc1 := []) (r1 := some (.int 1)) (st' := [.int 1, .long 0, .long v.toInt64]) (h' := hC g z w a b) (d0 := 0) GX11_mostOf kX11_set_25 rfl rfl (Nat.le_of_ble_eq_true rfl) (Nat.le_of_ble_eq_true rfl) rfl trivial (mostOf_4) (Nat.le_of_ble_eq_true rfl) rfl (Nat.le_of_ble_eq_true rfl) (Nat.le_of_ble_eq_true rfl) rfl rfl ?_
    refine P0.b GX11_set 1 (ob := []) (cf' := (29, [some (.ref 0), some (.int 4), some (.int of), some (.int v), none], [.long ((1 : Int32).toInt64), .long 0, .long v.toInt64], hC g z w a b)) rfl trivial ?_
    refine P0.cr (io := []) (as := [.long v.toInt64, .long ((0 : Int32).toInt64), .long ((1 : Int32).toInt64)]) (rest := []) (hc := []) (hc1 := []) (r1 := some (.int (if 0 ≤ v ∧ v ≤ 1 then 1 else 0))) (st' := [.int (if 0 ≤ v ∧ v ≤ 1 then 1 else 0)]) (h' := hC g z w a b) (d0 := 0) GX11_in kX11_set_29 rfl rfl (Nat.le_of_ble_eq_true rfl) (Nat.le_of_ble_eq_true rfl) rfl trivial (e_in32 v 0 1) (Nat.le_of_ble_eq_true rfl) rfl (Nat.le_of_ble_eq_true rfl) (Nat.le_of_ble_eq_true rfl) rfl rfl ?_
    refine P0.b GX11_set 1 (ob := []) (cf' := (if (if 0 ≤ v ∧ v ≤ 1 then 1 else 0) = 0 then 35 else 38, [some (.ref 0), some (.int 4), some (.int of), some (.int v), none], [], hC g z w a b)) rfl trivial ?_
    refine P0.ifB (fun h2 => ?_) (fun h2 => ?_)
    · refine P0.b GX11_set 1 (ob := []) (cf' := (37, [some (.ref 0), some (.int 4), some (.int of), some (.int v), none], [.int (-2)], hC g z w a b)) rfl trivial ?_
      exact P0.ri (by decide +kernel) rfl rfl ⟨(by rw [if_neg (fun z => h2 z.2)]), (by rw [if_neg (fun z => h2 z.2), if_neg (fun z => h2 z.2)])⟩
    · refine P0.b GX11_set 3 (ob := []) (cf' := (41, [some (.ref 0), some (.int 4), some (.int of), some (.int v), none], [.int 4, .int of, .ref 0], hC g z w a b)) rfl trivial ?_
      refine P0.cd (d0 := 45) (as := [.ref 0, .int of, .int 4]) (rest := []) (r1 := some (.int (a 6 (3 * of + 2).toNatClampNeg))) (h1 := hC g z w a b) (st' := [.int (a 6 (3 * of + 2).toNatClampNeg)]) GX11_told kX11_set_41 rfl ⟨_, _, rfl, rfl, .inl ⟨_, _, _, _, rfl, rfl⟩⟩ (Nat.le_of_ble_eq_true rfl) (Nat.le_of_ble_eq_true rfl) (P0.told h1 (told_4 hr hS hm hm6 hW of)) (Nat.le_of_ble_eq_true rfl) rfl (Nat.le_of_ble_eq_true rfl) rfl ?_
      refine P0.b GX11_set 5 (ob := []) (cf' := (50, [some (.ref 0), some (.int 4), some (.int of), some (.int v), some (.int (a 6 (3 * of + 2).toNatClampNeg))], [.int v, .int of, .int 4, .ref 0], hC g z w a b)) rfl trivial ?_
      refine P0.cd (d0 := 0) (as := [.ref 0, .int 4, .int of, .int v]) (rest := []) (r1 := none) (h1 := hC g z w (up2 a 6 (upd (a 6) (3 * of + 2).toNatClampNeg v)) b) (st' := []) GX11_lays kX11_set_50 rfl ⟨_, _, rfl, rfl, .inl ⟨_, _, _, _, rfl, rfl⟩⟩ (Nat.le_of_ble_eq_true rfl) (Nat.le_of_ble_eq_true rfl) (lays_4 (of := of) (wok2 hm hm6 h1) v) (Nat.le_of_ble_eq_true rfl) rfl (Nat.le_of_ble_eq_true rfl) rfl ?_
      refine P0.b GX11_set 1 (ob := []) (cf' := (55, [some (.ref 0), some (.int 4), some (.int of), some (.int v), some (.int (a 6 (3 * of + 2).toNatClampNeg))], [.int (a 6 (3 * of + 2).toNatClampNeg)], hC g z w (up2 a 6 (upd (a 6) (3 * of + 2).toNatClampNeg v)) b)) rfl trivial ?_
      exact P0.ri (by decide +kernel) rfl rfl ⟨(by rw [if_pos ⟨h1, h2⟩]), (by rw [if_pos ⟨h1, h2⟩, if_pos ⟨h1, h2⟩])⟩
set_option maxHeartbeats 1000000 in
theorem set_no {g z : Nat → Int32} {w : Int64} {a b : Nat → Nat → Int32} (what of v : Int32) (h4 : ¬ (0 ≤ what ∧ what ≤ 4)) : P0 46 0 0 mX11_set (0, ent 5 [.ref 0, .int what, .int of, .int v], [], hC g z w a b) (fun r h' => r = some (.int (-2)) ∧ h' = hC g z w a b) := by
  refine P0.b GX11_set 4 (ob := []) (cf' := (6, [some (.ref 0), some (.int what), some (.int of), some (.int v), none], [.long 4, .long 0, .long what.toInt64], hC g z w a b)) rfl trivial ?_
  refine P0.cr (io := []) (as := [.long what.toInt64, .long ((0 : Int32).toInt64), .long ((4 : Int32).toInt64)]) (rest := []) (hc := []) (hc1 := []) (r1 := some (.int (if 0 ≤ what ∧ what ≤ 4 then 1 else 0))) (st' := [.int (if 0 ≤ what ∧ what ≤ 4 then 1 else 0)]) (h' := hC g z w a b) (d0 := 0) GX11_in kX11_set_6 rfl rfl (Nat.le_of_ble_eq_true rfl) (Nat.le_of_ble_eq_true rfl) rfl trivial (e_in32 what 0 4) (Nat.le_of_ble_eq_true rfl) rfl (Nat.le_of_ble_eq_true rfl) (Nat.le_of_ble_eq_true rfl) rfl rfl ?_
  refine P0.b GX11_set 1 (ob := []) (cf' := (if (if 0 ≤ what ∧ what ≤ 4 then 1 else 0) = 0 then 35 else 12, [some (.ref 0), some (.int what), some (.int of), some (.int v), none], [], hC g z w a b)) rfl trivial ?_
  rw [if_neg (show ¬ (0 ≤ what ∧ what ≤ 4) from h4), if_pos rfl]
  refine P0.b GX11_set 1 (ob := []) (cf' := (37, [some (.ref 0), some (.int what), some (.int of), some (.int v), none], [.int (-2)], hC g z w a b)) rfl trivial ?_
  exact P0.ri (by decide +kernel) rfl rfl ⟨rfl, rfl⟩
