/-! ===== laid by program (wip/tools) ===== -/
set_option maxHeartbeats 1000000 in
theorem coder_0 : P0 0 0 0 mJ0_coder_7d493 (0, ent 1 [.ref (sB + 0)], [], []) (fun r h' => r = some (.int 0) ∧ h' = []) := by
  refine P0.b GJ0_coder_7d493 2 (ob := []) (cf' := (if (1 : Int32) = 0 then 13 else 6, [some (.ref (sB + 0))], [], [])) rfl trivial ?_
  rw [if_neg (show ¬ ((1 : Int32) = 0) from by decide)]
  refine P0.b GJ0_coder_7d493 3 (ob := []) (cf' := (14, [some (.ref (sB + 0))], [.int 0], [])) rfl trivial ?_
  exact P0.ri (by decide +kernel) rfl (by rfl) ⟨rfl, rfl⟩
set_option maxHeartbeats 1000000 in
theorem latin_0 : P0 0 0 0 mJ0_isLatin1_aae02 (0, ent 1 [.ref (sB + 0)], [], []) (fun r h' => r = some (.int 1) ∧ h' = []) := by
  refine P0.b GJ0_isLatin1_aae02 2 (ob := []) (cf' := (if (1 : Int32) = 0 then 17 else 6, [some (.ref (sB + 0))], [], [])) rfl trivial ?_
  rw [if_neg (show ¬ ((1 : Int32) = 0) from by decide)]
  refine P0.b GJ0_isLatin1_aae02 3 (ob := []) (cf' := (if (0 : Int32) = 0 then 13 else 17, [some (.ref (sB + 0))], [], [])) rfl trivial ?_
  rw [if_pos (show ((0 : Int32) = 0) from by decide)]
  refine P0.b GJ0_isLatin1_aae02 2 (ob := []) (cf' := (18, [some (.ref (sB + 0))], [.int 1], [])) rfl trivial ?_
  exact P0.ri (by decide +kernel) rfl (by rfl) ⟨rfl, rfl⟩
set_option maxHeartbeats 1000000 in
theorem len_0 : P0 1 0 0 mJ0_len (0, ent 1 [.ref (sB + 0)], [], []) (fun r h' => r = some (.int 46) ∧ h' = []) := by
  refine P0.b GJ0_len 4 (ob := []) (cf' := (6, [some (.ref (sB + 0))], [.ref (sB + 0), .int 46], [])) rfl trivial ?_
  refine P0.cr (io := []) (as := [.ref (sB + 0)]) (rest := [.int 46]) (hc := []) (hc1 := []) (r1 := some (.int 0)) (st' := [.int 0, .int 46]) (h' := []) (d0 := 0) GJ0_coder_7d493 kJ0_len_6 rfl ⟨_, _, rfl, rfl, .inr ⟨rfl, Nat.le_of_ble_eq_true rfl, Nat.le_of_ble_eq_true rfl⟩⟩ (Nat.le_of_ble_eq_true rfl) (Nat.le_of_ble_eq_true rfl) rfl trivial (coder_0) (Nat.le_of_ble_eq_true rfl) rfl (Nat.le_of_ble_eq_true rfl) (Nat.le_of_ble_eq_true rfl) rfl rfl ?_
  refine P0.b GJ0_len 1 (ob := []) (cf' := (10, [some (.ref (sB + 0))], [.int ((46 : Int32) >>> (0 &&& 31))], [])) rfl trivial ?_
  exact P0.ri (by decide +kernel) rfl rfl ⟨by decide +kernel, rfl⟩
theorem ch_0 : ∀ i, i < 46 → (((strB.getD 0 []).getD i 0 &&& 255).toUInt32 % 65536).toInt32 = (wq 0).getD i 0 := by decide +kernel
theorem chn_0 : ∀ i, i < 46 → narrow .char (.int ((wq 0).getD i 0)) = .int ((wq 0).getD i 0) := by decide +kernel
set_option maxHeartbeats 1000000 in
theorem latAt_0 {i : Nat} (hi : i < 46) : P0 2 0 0 mJ1_charAt_3b067 (0, ent 2 [.ref (sB + 100), .int (nI i)], [], []) (fun r h' => r = some (.int ((wq 0).getD i 0)) ∧ h' = []) := by
  refine P0.b GJ1_charAt_3b067 3 (ob := []) (cf' := (3, [some (.ref (sB + 100)), some (.int (nI i))], [.int 46, .int (nI i)], [])) rfl trivial ?_
  refine P0.cr (io := []) (as := [.int (nI i), .int 46]) (rest := []) (hc := []) (hc1 := []) (r1 := none) (st' := []) (h' := []) (d0 := 1) GJ0_checkIndex_df160 kJ1_charAt_3b067_3 rfl rfl (Nat.le_of_ble_eq_true rfl) (Nat.le_of_ble_eq_true rfl) rfl trivial (chk_n hi (by decide)) (Nat.le_of_ble_eq_true rfl) rfl (Nat.le_of_ble_eq_true rfl) (Nat.le_of_ble_eq_true rfl) rfl rfl ?_
  refine P0.b GJ1_charAt_3b067 6 (ob := [vp_in (nI i) 46]) (cf' := (14, [some (.ref (sB + 100)), some (.int (nI i))], [.int (((((strB.getD 0 []).getD (nI i).toNatClampNeg 0) &&& 255).toUInt32 % 65536).toInt32)], [])) rfl ⟨nI_vp (by omega) (by decide), trivial⟩ ?_
  rw [show (nI i).toNatClampNeg = i from nI_clamp (by omega)]
  exact P0.ri (by decide +kernel) rfl (by rw [ch_0 i hi]; exact chn_0 i hi) ⟨congrArg (fun x => some (Value.int x)) (ch_0 i hi), rfl⟩
set_option maxHeartbeats 1000000 in
theorem chAt_0 {i : Nat} (hi : i < 46) : P0 3 0 0 mJ0_charAt_5068e (0, ent 2 [.ref (sB + 0), .int (nI i)], [], []) (fun r h' => r = some (.int ((wq 0).getD i 0)) ∧ h' = []) := by
  refine P0.b GJ0_charAt_5068e 1 (ob := []) (cf' := (1, [some (.ref (sB + 0)), some (.int (nI i))], [.ref (sB + 0)], [])) rfl trivial ?_
  refine P0.cr (io := []) (as := [.ref (sB + 0)]) (rest := []) (hc := []) (hc1 := []) (r1 := some (.int 1)) (st' := [.int 1]) (h' := []) (d0 := 0) GJ0_isLatin1_aae02 kJ0_charAt_5068e_1 rfl ⟨_, _, rfl, rfl, .inr ⟨rfl, Nat.le_of_ble_eq_true rfl, Nat.le_of_ble_eq_true rfl⟩⟩ (Nat.le_of_ble_eq_true rfl) (Nat.le_of_ble_eq_true rfl) rfl trivial (latin_0) (Nat.le_of_ble_eq_true rfl) rfl (Nat.le_of_ble_eq_true rfl) (Nat.le_of_ble_eq_true rfl) rfl rfl ?_
  refine P0.b GJ0_charAt_5068e 1 (ob := []) (cf' := (if (1 : Int32) = 0 then 16 else 7, [some (.ref (sB + 0)), some (.int (nI i))], [], [])) rfl trivial ?_
  rw [if_neg (show ¬ ((1 : Int32) = 0) from by decide)]
  refine P0.b GJ0_charAt_5068e 3 (ob := []) (cf' := (12, [some (.ref (sB + 0)), some (.int (nI i))], [.int (nI i), .ref (sB + 100)], [])) rfl trivial ?_
  refine P0.cr (io := []) (as := [.ref (sB + 100), .int (nI i)]) (rest := []) (hc := []) (hc1 := []) (r1 := some (.int ((wq 0).getD i 0))) (st' := [.int ((wq 0).getD i 0)]) (h' := []) (d0 := 2) GJ1_charAt_3b067 kJ0_charAt_5068e_12 rfl rfl (Nat.le_of_ble_eq_true rfl) (Nat.le_of_ble_eq_true rfl) rfl trivial (latAt_0 hi) (Nat.le_of_ble_eq_true rfl) rfl (Nat.le_of_ble_eq_true rfl) (Nat.le_of_ble_eq_true rfl) rfl rfl ?_
  exact P0.ri (by decide +kernel) rfl (by exact chn_0 i hi) ⟨rfl, rfl⟩
