/-! ===== laid by wip/tools/m_lives1.py ===== -/
set_option maxHeartbeats 1000000 in
theorem e_X5_put {n : Nat} (hn : n < 2 ^ 31) (f : Nat → Int32) (i x : Int32) : P0 0 0 0 mX5_put (0, ent 3 [.ref 0, .int i, .int x], [], [pI n f]) (fun r h' => r = none ∧ h' = [pI n (rowPut n f i x)]) := by
  refine P0.b GX5_put 2 (ob := []) (cf' := (if i < 0 then 14 else 4, [some (.ref 0), some (.int i), some (.int x)], [], [pI n f])) rfl trivial ?_
  refine P0.if (fun h1 => ?_) (fun h1 => ?_)
  · exact P0.rv (by decide +kernel) rfl ⟨rfl, by simp [rowPut, h1]⟩
  · refine P0.b GX5_put 4 (ob := []) (cf' := (if Int32.ofNat n ≤ i then 14 else 10, [some (.ref 0), some (.int i), some (.int x)], [], [pI n f])) rfl trivial ?_
    refine P0.if (fun h2 => ?_) (fun h2 => ?_)
    · exact P0.rv (by decide +kernel) rfl ⟨rfl, by simp [rowPut, h1, h2]⟩
    · refine P0.b GX5_put 4 (ob := [vp_in i n]) (cf' := (14, [some (.ref 0), some (.int i), some (.int x)], [], [pI n (upd f i.toNatClampNeg x)])) rfl ⟨inRow hn h1 h2, trivial⟩ ?_
      exact P0.rv (by decide +kernel) rfl ⟨rfl, by simp [rowPut, h1, h2]⟩
set_option maxHeartbeats 1000000 in
theorem e_X5_place (s l d : Int32) : P0 0 0 0 mX5_place (0, ent 3 [.int s, .int l, .int d], [], []) (fun r h' => r = some (.int ((s * 4 + l) * 4 + d)) ∧ h' = []) := by
  refine P0.b GX5_place 9 (ob := []) (cf' := (9, [some (.int s), some (.int l), some (.int d)], [.int ((((s * 4) + l) * 4) + d)], [])) rfl trivial ?_
  exact P0.ri (by decide +kernel) rfl rfl ⟨by simp [], rfl⟩
set_option maxHeartbeats 1000000 in
theorem e_X2_spot (s l : Int32) : P0 0 0 0 mX2_spot (0, ent 2 [.int s, .int l], [], []) (fun r h' => r = some (.int (s * 4 + l)) ∧ h' = []) := by
  refine P0.b GX2_spot 5 (ob := []) (cf' := (5, [some (.int s), some (.int l)], [.int ((s * 4) + l)], [])) rfl trivial ?_
  exact P0.ri (by decide +kernel) rfl rfl ⟨by simp [], rfl⟩
def hL (al wy mo he : Nat → Int32) (fo : Int32) : PH := [pO 1 [.ref 1, .ref 2, .ref 3, .ref 4, .int fo], pI 96 al, pI 28 wy, pI 28 mo, pI 28 he]
def fitsI (al : Nat → Int32) (who s l d : Int32) : Int32 := if (rowAt 96 al ((s * 4 + l) * 4 + d)) &&& who = who then 1 else 0
def waysI (al wy : Nat → Int32) (who s l d : Int32) : Int32 := if fitsI al who s l d = 0 then 0 else rowAt 28 wy ((s + 1) * 4 + d)
set_option maxHeartbeats 1000000 in
theorem e_X2_fits (al wy mo he : Nat → Int32) (fo who s l d : Int32) : P0 1 0 0 mX2_fits (0, ent 5 [.ref 0, .int who, .int s, .int l, .int d], [], [pO 1 [.ref 1, .ref 2, .ref 3, .ref 4, .int fo], pI 96 al, pI 28 wy, pI 28 mo, pI 28 he]) (fun r h' => r = some (.int (fitsI al who s l d)) ∧ h' = [pO 1 [.ref 1, .ref 2, .ref 3, .ref 4, .int fo], pI 96 al, pI 28 wy, pI 28 mo, pI 28 he]) := by
  refine P0.b GX2_fits 5 (ob := []) (cf' := (8, [some (.ref 0), some (.int who), some (.int s), some (.int l), some (.int d)], [.int d, .int l, .int s, .ref 1], [pO 1 [.ref 1, .ref 2, .ref 3, .ref 4, .int fo], pI 96 al, pI 28 wy, pI 28 mo, pI 28 he])) rfl trivial ?_
  refine P0.cr (io := []) (as := [.int s, .int l, .int d]) (rest := [.ref 1]) (hc := []) (hc1 := []) (r1 := some (.int ((s * 4 + l) * 4 + d))) (st' := [.int ((s * 4 + l) * 4 + d), .ref 1]) (h' := [pO 1 [.ref 1, .ref 2, .ref 3, .ref 4, .int fo], pI 96 al, pI 28 wy, pI 28 mo, pI 28 he]) (d0 := 0) GX5_place kX2_fits_8 rfl rfl (Nat.le_of_ble_eq_true rfl) (Nat.le_of_ble_eq_true rfl) rfl trivial (e_X5_place s l d) (Nat.le_of_ble_eq_true rfl) rfl (Nat.le_of_ble_eq_true rfl) (Nat.le_of_ble_eq_true rfl) rfl rfl ?_
  refine P0.cr (io := [1]) (as := [.ref 0, .int ((s * 4 + l) * 4 + d)]) (rest := []) (hc := [pI 96 al]) (hc1 := [pI 96 al]) (r1 := some (.int (rowAt 96 al ((s * 4 + l) * 4 + d)))) (st' := [.int (rowAt 96 al ((s * 4 + l) * 4 + d))]) (h' := [pO 1 [.ref 1, .ref 2, .ref 3, .ref 4, .int fo], pI 96 al, pI 28 wy, pI 28 mo, pI 28 he]) (d0 := 0) GX5_at kX2_fits_11 rfl rfl (Nat.le_of_ble_eq_true rfl) (Nat.le_of_ble_eq_true rfl) rfl ⟨rfl, trivial⟩ (e_X5_at (n := 96) (by decide) al ((s * 4 + l) * 4 + d)) (Nat.zero_le _) rfl (Nat.le_of_ble_eq_true rfl) (Nat.le_of_ble_eq_true rfl) rfl rfl ?_
  refine P0.b GX2_fits 4 (ob := []) (cf' := (if (rowAt 96 al ((s * 4 + l) * 4 + d)) &&& who = who then 20 else 24, [some (.ref 0), some (.int who), some (.int s), some (.int l), some (.int d)], [], [pO 1 [.ref 1, .ref 2, .ref 3, .ref 4, .int fo], pI 96 al, pI 28 wy, pI 28 mo, pI 28 he])) rfl trivial ?_
  refine P0.if (fun h1 => ?_) (fun h1 => ?_)
  · refine P0.b GX2_fits 2 (ob := []) (cf' := (25, [some (.ref 0), some (.int who), some (.int s), some (.int l), some (.int d)], [.int 1], [pO 1 [.ref 1, .ref 2, .ref 3, .ref 4, .int fo], pI 96 al, pI 28 wy, pI 28 mo, pI 28 he])) rfl trivial ?_
    exact P0.ri (by decide +kernel) rfl (by rfl) ⟨by simp [fitsI, h1], rfl⟩
  · refine P0.b GX2_fits 1 (ob := []) (cf' := (25, [some (.ref 0), some (.int who), some (.int s), some (.int l), some (.int d)], [.int 0], [pO 1 [.ref 1, .ref 2, .ref 3, .ref 4, .int fo], pI 96 al, pI 28 wy, pI 28 mo, pI 28 he])) rfl trivial ?_
    exact P0.ri (by decide +kernel) rfl (by rfl) ⟨by simp [fitsI, h1], rfl⟩
set_option maxHeartbeats 1000000 in
theorem e_X2_waysBy (al wy mo he : Nat → Int32) (fo who s l d : Int32) : P0 2 0 0 mX2_waysBy (0, ent 5 [.ref 0, .int who, .int s, .int l, .int d], [], [pO 1 [.ref 1, .ref 2, .ref 3, .ref 4, .int fo], pI 96 al, pI 28 wy, pI 28 mo, pI 28 he]) (fun r h' => r = some (.int (waysI al wy who s l d)) ∧ h' = [pO 1 [.ref 1, .ref 2, .ref 3, .ref 4, .int fo], pI 96 al, pI 28 wy, pI 28 mo, pI 28 he]) := by
  refine P0.b GX2_waysBy 5 (ob := []) (cf' := (6, [some (.ref 0), some (.int who), some (.int s), some (.int l), some (.int d)], [.int d, .int l, .int s, .int who, .ref 0], [pO 1 [.ref 1, .ref 2, .ref 3, .ref 4, .int fo], pI 96 al, pI 28 wy, pI 28 mo, pI 28 he])) rfl trivial ?_
  refine P0.cd (d0 := 1) (as := [.ref 0, .int who, .int s, .int l, .int d]) (rest := []) (r1 := some (.int (fitsI al who s l d))) (h1 := [pO 1 [.ref 1, .ref 2, .ref 3, .ref 4, .int fo], pI 96 al, pI 28 wy, pI 28 mo, pI 28 he]) (st' := [.int (fitsI al who s l d)]) GX2_fits kX2_waysBy_6 rfl ⟨_, _, rfl, rfl, .inl ⟨_, _, _, _, rfl, rfl⟩⟩ (Nat.le_of_ble_eq_true rfl) (Nat.le_of_ble_eq_true rfl) (e_X2_fits al wy mo he fo who s l d) (Nat.le_of_ble_eq_true rfl) rfl (Nat.le_of_ble_eq_true rfl) rfl ?_
  refine P0.b GX2_waysBy 1 (ob := []) (cf' := (if fitsI al who s l d = 0 then 30 else 12, [some (.ref 0), some (.int who), some (.int s), some (.int l), some (.int d)], [], [pO 1 [.ref 1, .ref 2, .ref 3, .ref 4, .int fo], pI 96 al, pI 28 wy, pI 28 mo, pI 28 he])) rfl trivial ?_
  refine P0.if (fun h1 => ?_) (fun h1 => ?_)
  · refine P0.b GX2_waysBy 1 (ob := []) (cf' := (31, [some (.ref 0), some (.int who), some (.int s), some (.int l), some (.int d)], [.int 0], [pO 1 [.ref 1, .ref 2, .ref 3, .ref 4, .int fo], pI 96 al, pI 28 wy, pI 28 mo, pI 28 he])) rfl trivial ?_
    exact P0.ri (by decide +kernel) rfl rfl ⟨by simp [waysI, h1], rfl⟩
  · refine P0.b GX2_waysBy 6 (ob := []) (cf' := (21, [some (.ref 0), some (.int who), some (.int s), some (.int l), some (.int d)], [.int d, .int (s + 1), .ref 2], [pO 1 [.ref 1, .ref 2, .ref 3, .ref 4, .int fo], pI 96 al, pI 28 wy, pI 28 mo, pI 28 he])) rfl trivial ?_
    refine P0.cr (io := []) (as := [.int (s + 1), .int d]) (rest := [.ref 2]) (hc := []) (hc1 := []) (r1 := some (.int ((s + 1) * 4 + d))) (st' := [.int ((s + 1) * 4 + d), .ref 2]) (h' := [pO 1 [.ref 1, .ref 2, .ref 3, .ref 4, .int fo], pI 96 al, pI 28 wy, pI 28 mo, pI 28 he]) (d0 := 0) GX2_spot kX2_waysBy_21 rfl rfl (Nat.le_of_ble_eq_true rfl) (Nat.le_of_ble_eq_true rfl) rfl trivial (e_X2_spot (s + 1) d) (Nat.le_of_ble_eq_true rfl) rfl (Nat.le_of_ble_eq_true rfl) (Nat.le_of_ble_eq_true rfl) rfl rfl ?_
    refine P0.cr (io := [2]) (as := [.ref 0, .int ((s + 1) * 4 + d)]) (rest := []) (hc := [pI 28 wy]) (hc1 := [pI 28 wy]) (r1 := some (.int (rowAt 28 wy ((s + 1) * 4 + d)))) (st' := [.int (rowAt 28 wy ((s + 1) * 4 + d))]) (h' := [pO 1 [.ref 1, .ref 2, .ref 3, .ref 4, .int fo], pI 96 al, pI 28 wy, pI 28 mo, pI 28 he]) (d0 := 0) GX5_at kX2_waysBy_24 rfl rfl (Nat.le_of_ble_eq_true rfl) (Nat.le_of_ble_eq_true rfl) rfl ⟨rfl, trivial⟩ (e_X5_at (n := 28) (by decide) wy ((s + 1) * 4 + d)) (Nat.zero_le _) rfl (Nat.le_of_ble_eq_true rfl) (Nat.le_of_ble_eq_true rfl) rfl rfl ?_
    refine P0.b GX2_waysBy 1 (ob := []) (cf' := (31, [some (.ref 0), some (.int who), some (.int s), some (.int l), some (.int d)], [.int (rowAt 28 wy ((s + 1) * 4 + d))], [pO 1 [.ref 1, .ref 2, .ref 3, .ref 4, .int fo], pI 96 al, pI 28 wy, pI 28 mo, pI 28 he])) rfl trivial ?_
    exact P0.ri (by decide +kernel) rfl rfl ⟨by simp [waysI, h1], rfl⟩
