/-! ===== laid by program (wip/tools) ===== -/
set_option maxHeartbeats 1000000 in
theorem become_n {it : Nat → Int32} {so sz : Int32} (s n : Int32) : P0 1 0 0 mX6_become (0, ent 3 [.ref 0, .int s, .int n], [], [pO 4 [.ref 1, .int so, .int sz], pI 40 it]) (fun r h' => r = none ∧ h' = [pO 4 [.ref 1, .int s, .int n], pI 40 (filV it 40 0)]) := by
  refine P0.b GX6_become 3 (ob := []) (cf' := (5, [some (.ref 0), some (.int s), some (.int n)], [], [pO 4 [.ref 1, .int s, .int sz], pI 40 it])) rfl trivial ?_
  refine P0.b GX6_become 3 (ob := []) (cf' := (10, [some (.ref 0), some (.int s), some (.int n)], [], [pO 4 [.ref 1, .int s, .int n], pI 40 it])) rfl trivial ?_
  refine P0.b GX6_become 3 (ob := []) (cf' := (15, [some (.ref 0), some (.int s), some (.int n)], [.int 0, .ref 1], [pO 4 [.ref 1, .int s, .int n], pI 40 it])) rfl trivial ?_
  refine P0.cr (io := [1]) (as := [.ref 0, .int 0]) (rest := []) (hc := [pI 40 it]) (hc1 := [pI 40 (filV it 40 0)]) (r1 := none) (st' := []) (h' := [pO 4 [.ref 1, .int s, .int n], pI 40 (filV it 40 0)]) (d0 := 0) GJ7_fill_53178 kX6_become_15 rfl rfl (Nat.le_of_ble_eq_true rfl) (Nat.le_of_ble_eq_true rfl) rfl ⟨rfl, trivial⟩ (fill_n (n := 40) (by decide) it 0) (Nat.zero_le _) rfl (Nat.le_of_ble_eq_true rfl) (Nat.le_of_ble_eq_true rfl) rfl rfl ?_
  exact P0.rv (by decide +kernel) rfl ⟨rfl, rfl⟩
set_option maxHeartbeats 1000000 in
theorem holds_n {it : Nat → Int32} {so sz : Int32} (i : Int32) : P0 0 0 0 mX6_holds (0, ent 2 [.ref 0, .int i], [], [pO 4 [.ref 1, .int so, .int sz], pI 40 it]) (fun r h' => r = some (.int (if 0 ≤ i ∧ i < sz then 1 else 0)) ∧ h' = [pO 4 [.ref 1, .int so, .int sz], pI 40 it]) := by
  refine P0.b GX6_holds 2 (ob := []) (cf' := (if i < 0 then 16 else 4, [some (.ref 0), some (.int i)], [], [pO 4 [.ref 1, .int so, .int sz], pI 40 it])) rfl trivial ?_
  refine P0.if (fun h1 => ?_) (fun h1 => ?_)
  · refine P0.b GX6_holds 1 (ob := []) (cf' := (17, [some (.ref 0), some (.int i)], [.int 0], [pO 4 [.ref 1, .int so, .int sz], pI 40 it])) rfl trivial ?_
    exact P0.ri (by decide +kernel) rfl (by rfl) ⟨by rw [if_neg (fun z => (Int32.not_le.mpr h1) z.1)], rfl⟩
  · refine P0.b GX6_holds 4 (ob := []) (cf' := (if sz ≤ i then 16 else 12, [some (.ref 0), some (.int i)], [], [pO 4 [.ref 1, .int so, .int sz], pI 40 it])) rfl trivial ?_
    refine P0.if (fun h2 => ?_) (fun h2 => ?_)
    · refine P0.b GX6_holds 1 (ob := []) (cf' := (17, [some (.ref 0), some (.int i)], [.int 0], [pO 4 [.ref 1, .int so, .int sz], pI 40 it])) rfl trivial ?_
      exact P0.ri (by decide +kernel) rfl (by rfl) ⟨by rw [if_neg (fun z => (Int32.not_lt.mpr h2) z.2)], rfl⟩
    · refine P0.b GX6_holds 2 (ob := []) (cf' := (17, [some (.ref 0), some (.int i)], [.int 1], [pO 4 [.ref 1, .int so, .int sz], pI 40 it])) rfl trivial ?_
      exact P0.ri (by decide +kernel) rfl (by rfl) ⟨by rw [if_pos ⟨Int32.not_lt.mp h1, Int32.not_le.mp h2⟩], rfl⟩
set_option maxHeartbeats 1000000 in
theorem holdsAll_n {it : Nat → Int32} {so sz : Int32} (i n : Int32) : P0 0 0 0 mX6_holdsAll (0, ent 3 [.ref 0, .int i, .int n], [], [pO 4 [.ref 1, .int so, .int sz], pI 40 it]) (fun r h' => r = some (.int (if 0 ≤ i ∧ 0 ≤ n ∧ i ≤ sz ∧ n ≤ sz - i then 1 else 0)) ∧ h' = [pO 4 [.ref 1, .int so, .int sz], pI 40 it]) := by
  refine P0.b GX6_holdsAll 2 (ob := []) (cf' := (if i < 0 then 30 else 4, [some (.ref 0), some (.int i), some (.int n)], [], [pO 4 [.ref 1, .int so, .int sz], pI 40 it])) rfl trivial ?_
  refine P0.if (fun h1 => ?_) (fun h1 => ?_)
  · refine P0.b GX6_holdsAll 1 (ob := []) (cf' := (31, [some (.ref 0), some (.int i), some (.int n)], [.int 0], [pO 4 [.ref 1, .int so, .int sz], pI 40 it])) rfl trivial ?_
    exact P0.ri (by decide +kernel) rfl (by rfl) ⟨by rw [if_neg (fun z => (Int32.not_le.mpr h1) z.1)], rfl⟩
  · refine P0.b GX6_holdsAll 2 (ob := []) (cf' := (if n < 0 then 30 else 8, [some (.ref 0), some (.int i), some (.int n)], [], [pO 4 [.ref 1, .int so, .int sz], pI 40 it])) rfl trivial ?_
    refine P0.if (fun h2 => ?_) (fun h2 => ?_)
    · refine P0.b GX6_holdsAll 1 (ob := []) (cf' := (31, [some (.ref 0), some (.int i), some (.int n)], [.int 0], [pO 4 [.ref 1, .int so, .int sz], pI 40 it])) rfl trivial ?_
      exact P0.ri (by decide +kernel) rfl (by rfl) ⟨by rw [if_neg (fun z => (Int32.not_le.mpr h2) z.2.1)], rfl⟩
    · refine P0.b GX6_holdsAll 4 (ob := []) (cf' := (if sz < i then 30 else 16, [some (.ref 0), some (.int i), some (.int n)], [], [pO 4 [.ref 1, .int so, .int sz], pI 40 it])) rfl trivial ?_
      refine P0.if (fun h3 => ?_) (fun h3 => ?_)
      · refine P0.b GX6_holdsAll 1 (ob := []) (cf' := (31, [some (.ref 0), some (.int i), some (.int n)], [.int 0], [pO 4 [.ref 1, .int so, .int sz], pI 40 it])) rfl trivial ?_
        exact P0.ri (by decide +kernel) rfl (by rfl) ⟨by rw [if_neg (fun z => (Int32.not_le.mpr h3) z.2.2.1)], rfl⟩
      · refine P0.b GX6_holdsAll 6 (ob := []) (cf' := (if sz - i < n then 30 else 26, [some (.ref 0), some (.int i), some (.int n)], [], [pO 4 [.ref 1, .int so, .int sz], pI 40 it])) rfl trivial ?_
        refine P0.if (fun h4 => ?_) (fun h4 => ?_)
        · refine P0.b GX6_holdsAll 1 (ob := []) (cf' := (31, [some (.ref 0), some (.int i), some (.int n)], [.int 0], [pO 4 [.ref 1, .int so, .int sz], pI 40 it])) rfl trivial ?_
          exact P0.ri (by decide +kernel) rfl (by rfl) ⟨by rw [if_neg (fun z => (Int32.not_le.mpr h4) z.2.2.2)], rfl⟩
        · refine P0.b GX6_holdsAll 2 (ob := []) (cf' := (31, [some (.ref 0), some (.int i), some (.int n)], [.int 1], [pO 4 [.ref 1, .int so, .int sz], pI 40 it])) rfl trivial ?_
          exact P0.ri (by decide +kernel) rfl (by rfl) ⟨by rw [if_pos ⟨Int32.not_lt.mp h1, Int32.not_lt.mp h2, Int32.not_lt.mp h3, Int32.not_lt.mp h4⟩], rfl⟩
set_option maxHeartbeats 1000000 in
theorem item_n {it : Nat → Int32} {so sz : Int32} (i : Int32) : P0 1 0 0 mX6_item (0, ent 2 [.ref 0, .int i], [], [pO 4 [.ref 1, .int so, .int sz], pI 40 it]) (fun r h' => r = some (.int (rowAt 40 it i)) ∧ h' = [pO 4 [.ref 1, .int so, .int sz], pI 40 it]) := by
  refine P0.b GX6_item 3 (ob := []) (cf' := (5, [some (.ref 0), some (.int i)], [.int i, .ref 1], [pO 4 [.ref 1, .int so, .int sz], pI 40 it])) rfl trivial ?_
  refine P0.cr (io := [1]) (as := [.ref 0, .int i]) (rest := []) (hc := [pI 40 it]) (hc1 := [pI 40 it]) (r1 := some (.int (rowAt 40 it i))) (st' := [.int (rowAt 40 it i)]) (h' := [pO 4 [.ref 1, .int so, .int sz], pI 40 it]) (d0 := 0) GX5_at kX6_item_5 rfl rfl (Nat.le_of_ble_eq_true rfl) (Nat.le_of_ble_eq_true rfl) rfl ⟨rfl, trivial⟩ (e_X5_at (n := 40) (by decide) it i) (Nat.zero_le _) rfl (Nat.le_of_ble_eq_true rfl) (Nat.le_of_ble_eq_true rfl) rfl rfl ?_
  exact P0.ri (by decide +kernel) rfl rfl ⟨rfl, rfl⟩
/-- what an item becomes in a sheet of a sort -/
def itV (so v : Int32) : Int32 := if so = 0 then v.toInt8.toInt32 else if so = 1 then v.toInt16.toInt32 else v
set_option maxHeartbeats 1000000 in
theorem shput_n {it : Nat → Int32} {so sz : Int32} (i v : Int32) : P0 1 0 0 mX6_put (0, ent 3 [.ref 0, .int i, .int v], [], [pO 4 [.ref 1, .int so, .int sz], pI 40 it]) (fun r h' => r = none ∧ h' = [pO 4 [.ref 1, .int so, .int sz], pI 40 (rowPut 40 it i (itV so v))]) := by
  refine P0.b GX6_put 6 (ob := []) (cf' := (if so = 0 then 12 else 17, [some (.ref 0), some (.int i), some (.int v)], [.int i, .ref 1], [pO 4 [.ref 1, .int so, .int sz], pI 40 it])) rfl trivial ?_
  refine P0.if (fun h1 => ?_) (fun h1 => ?_)
  · refine P0.b GX6_put 3 (ob := []) (cf' := (31, [some (.ref 0), some (.int i), some (.int v)], [.int v.toInt8.toInt32, .int i, .ref 1], [pO 4 [.ref 1, .int so, .int sz], pI 40 it])) rfl trivial ?_
    refine P0.cr (io := [1]) (as := [.ref 0, .int i, .int v.toInt8.toInt32]) (rest := []) (hc := [pI 40 it]) (hc1 := [pI 40 (rowPut 40 it i v.toInt8.toInt32)]) (r1 := none) (st' := []) (h' := [pO 4 [.ref 1, .int so, .int sz], pI 40 (rowPut 40 it i v.toInt8.toInt32)]) (d0 := 0) GX5_put kX6_put_31 rfl rfl (Nat.le_of_ble_eq_true rfl) (Nat.le_of_ble_eq_true rfl) rfl ⟨rfl, trivial⟩ (e_X5_put (n := 40) (by decide) it i v.toInt8.toInt32) (Nat.zero_le _) rfl (Nat.le_of_ble_eq_true rfl) (Nat.le_of_ble_eq_true rfl) rfl rfl ?_
    exact P0.rv (by decide +kernel) rfl ⟨rfl, by unfold itV; rw [if_pos h1]⟩
  · refine P0.b GX6_put 4 (ob := []) (cf' := (if so = 1 then 25 else 30, [some (.ref 0), some (.int i), some (.int v)], [.int i, .ref 1], [pO 4 [.ref 1, .int so, .int sz], pI 40 it])) rfl trivial ?_
    refine P0.if (fun h2 => ?_) (fun h2 => ?_)
    · refine P0.b GX6_put 3 (ob := []) (cf' := (31, [some (.ref 0), some (.int i), some (.int v)], [.int v.toInt16.toInt32, .int i, .ref 1], [pO 4 [.ref 1, .int so, .int sz], pI 40 it])) rfl trivial ?_
      refine P0.cr (io := [1]) (as := [.ref 0, .int i, .int v.toInt16.toInt32]) (rest := []) (hc := [pI 40 it]) (hc1 := [pI 40 (rowPut 40 it i v.toInt16.toInt32)]) (r1 := none) (st' := []) (h' := [pO 4 [.ref 1, .int so, .int sz], pI 40 (rowPut 40 it i v.toInt16.toInt32)]) (d0 := 0) GX5_put kX6_put_31 rfl rfl (Nat.le_of_ble_eq_true rfl) (Nat.le_of_ble_eq_true rfl) rfl ⟨rfl, trivial⟩ (e_X5_put (n := 40) (by decide) it i v.toInt16.toInt32) (Nat.zero_le _) rfl (Nat.le_of_ble_eq_true rfl) (Nat.le_of_ble_eq_true rfl) rfl rfl ?_
      exact P0.rv (by decide +kernel) rfl ⟨rfl, by unfold itV; rw [if_neg h1, if_pos h2]⟩
    · refine P0.b GX6_put 1 (ob := []) (cf' := (31, [some (.ref 0), some (.int i), some (.int v)], [.int v, .int i, .ref 1], [pO 4 [.ref 1, .int so, .int sz], pI 40 it])) rfl trivial ?_
      refine P0.cr (io := [1]) (as := [.ref 0, .int i, .int v]) (rest := []) (hc := [pI 40 it]) (hc1 := [pI 40 (rowPut 40 it i v)]) (r1 := none) (st' := []) (h' := [pO 4 [.ref 1, .int so, .int sz], pI 40 (rowPut 40 it i v)]) (d0 := 0) GX5_put kX6_put_31 rfl rfl (Nat.le_of_ble_eq_true rfl) (Nat.le_of_ble_eq_true rfl) rfl ⟨rfl, trivial⟩ (e_X5_put (n := 40) (by decide) it i v) (Nat.zero_le _) rfl (Nat.le_of_ble_eq_true rfl) (Nat.le_of_ble_eq_true rfl) rfl rfl ?_
      exact P0.rv (by decide +kernel) rfl ⟨rfl, by unfold itV; rw [if_neg h1, if_neg h2]⟩
set_option maxHeartbeats 1000000 in
theorem isKind_n (k : Int32) : P0 0 0 0 mX1_isKind (0, ent 1 [.int k], [], []) (fun r h' => r = some (.int (if 0 ≤ k ∧ k ≤ 5 then 1 else 0)) ∧ h' = []) := by
  refine P0.b GX1_isKind 2 (ob := []) (cf' := (if k < 0 then 13 else 4, [some (.int k)], [], [])) rfl trivial ?_
  refine P0.if (fun h1 => ?_) (fun h1 => ?_)
  · refine P0.b GX1_isKind 1 (ob := []) (cf' := (14, [some (.int k)], [.int 0], [])) rfl trivial ?_
    exact P0.ri (by decide +kernel) rfl (by rfl) ⟨by rw [if_neg (fun z => (Int32.not_le.mpr h1) z.1)], rfl⟩
  · refine P0.b GX1_isKind 3 (ob := []) (cf' := (if 5 < k then 13 else 9, [some (.int k)], [], [])) rfl trivial ?_
    refine P0.if (fun h2 => ?_) (fun h2 => ?_)
    · refine P0.b GX1_isKind 1 (ob := []) (cf' := (14, [some (.int k)], [.int 0], [])) rfl trivial ?_
      exact P0.ri (by decide +kernel) rfl (by rfl) ⟨by rw [if_neg (fun z => (Int32.not_le.mpr h2) z.2)], rfl⟩
    · refine P0.b GX1_isKind 2 (ob := []) (cf' := (14, [some (.int k)], [.int 1], [])) rfl trivial ?_
      exact P0.ri (by decide +kernel) rfl (by rfl) ⟨by rw [if_pos ⟨Int32.not_lt.mp h1, Int32.not_lt.mp h2⟩], rfl⟩
theorem isKind_lm1 : P0 0 0 0 mX1_isKind (0, ent 1 [.int (-1)], [], []) (fun r h' => r = some (.int 0) ∧ h' = []) := by
  have h := isKind_n (-1)
  rw [if_neg (show ¬ ((0 : Int32) ≤ -1 ∧ (-1 : Int32) ≤ 5) by decide)] at h
  exact h
theorem isKind_l0 : P0 0 0 0 mX1_isKind (0, ent 1 [.int 0], [], []) (fun r h' => r = some (.int 1) ∧ h' = []) := by
  have h := isKind_n 0
  rw [if_pos (show (0 : Int32) ≤ 0 ∧ (0 : Int32) ≤ 5 by decide)] at h
  exact h
theorem isKind_l1 : P0 0 0 0 mX1_isKind (0, ent 1 [.int 1], [], []) (fun r h' => r = some (.int 1) ∧ h' = []) := by
  have h := isKind_n 1
  rw [if_pos (show (0 : Int32) ≤ 1 ∧ (1 : Int32) ≤ 5 by decide)] at h
  exact h
theorem isKind_l2 : P0 0 0 0 mX1_isKind (0, ent 1 [.int 2], [], []) (fun r h' => r = some (.int 1) ∧ h' = []) := by
  have h := isKind_n 2
  rw [if_pos (show (0 : Int32) ≤ 2 ∧ (2 : Int32) ≤ 5 by decide)] at h
  exact h
theorem isKind_l3 : P0 0 0 0 mX1_isKind (0, ent 1 [.int 3], [], []) (fun r h' => r = some (.int 1) ∧ h' = []) := by
  have h := isKind_n 3
  rw [if_pos (show (0 : Int32) ≤ 3 ∧ (3 : Int32) ≤ 5 by decide)] at h
  exact h
theorem isKind_l4 : P0 0 0 0 mX1_isKind (0, ent 1 [.int 4], [], []) (fun r h' => r = some (.int 1) ∧ h' = []) := by
  have h := isKind_n 4
  rw [if_pos (show (0 : Int32) ≤ 4 ∧ (4 : Int32) ≤ 5 by decide)] at h
  exact h
theorem isKind_l5 : P0 0 0 0 mX1_isKind (0, ent 1 [.int 5], [], []) (fun r h' => r = some (.int 1) ∧ h' = []) := by
  have h := isKind_n 5
  rw [if_pos (show (0 : Int32) ≤ 5 ∧ (5 : Int32) ≤ 5 by decide)] at h
  exact h
/-- is kind k of the other one, or under it -/
def undB (k o : Int32) : Bool := decide (k = o) || (match k with
  | _ => (decide (k = 1 ∨ k = 2 ∨ k = 5) && decide (o = 0)) || (decide (k = 3) && (decide (o = 1) || decide (o = 0))) || (decide (k = 4) && (decide (o = 2) || decide (o = 0))))
set_option maxHeartbeats 1000000 in
theorem isUnder_0 (o : Int32) : P0 1 0 0 mX1_isUnder (0, ent 4 [.int 0, .int o], [], []) (fun r h' => r = some (.int (if undB 0 o = true then 1 else 0)) ∧ h' = []) := by
  refine P0.b GX1_isUnder 8 (ob := []) (cf' := (if (6 : Int32) ≤ 0 then 38 else 12, [some (.int 0), some (.int o), some (.int 0), some (.int 0)], [], [])) rfl trivial ?_
  rw [if_neg (show ¬ ((6 : Int32) ≤ 0) from by decide)]
  refine P0.b GX1_isUnder 1 (ob := []) (cf' := (13, [some (.int 0), some (.int o), some (.int 0), some (.int 0)], [.int 0], [])) rfl trivial ?_
  refine P0.cr (io := []) (as := [.int 0]) (rest := []) (hc := []) (hc1 := []) (r1 := some (.int 1)) (st' := [.int 1]) (h' := []) (d0 := 0) GX1_isKind kX1_isUnder_13 rfl rfl (Nat.le_of_ble_eq_true rfl) (Nat.le_of_ble_eq_true rfl) rfl trivial (isKind_l0) (Nat.le_of_ble_eq_true rfl) rfl (Nat.le_of_ble_eq_true rfl) (Nat.le_of_ble_eq_true rfl) rfl rfl ?_
  refine P0.b GX1_isUnder 1 (ob := []) (cf' := (if (1 : Int32) = 0 then 38 else 19, [some (.int 0), some (.int o), some (.int 0), some (.int 0)], [], [])) rfl trivial ?_
  rw [if_neg (show ¬ ((1 : Int32) = 0) from by decide)]
  refine P0.b GX1_isUnder 3 (ob := []) (cf' := (if 0 = o then 24 else 26, [some (.int 0), some (.int o), some (.int 0), some (.int 0)], [], [])) rfl trivial ?_
  refine P0.if (fun h1 => ?_) (fun h1 => ?_)
  · refine P0.b GX1_isUnder 1 (ob := []) (cf' := (25, [some (.int 0), some (.int o), some (.int 0), some (.int 0)], [.int 1], [])) rfl trivial ?_
    exact P0.ri (by decide +kernel) rfl (by rfl) ⟨by simp [undB, h1.symm], rfl⟩
  · refine P0.b GX1_isUnder 8 (ob := [vp_in 0 6]) (cf' := (8, [some (.int 0), some (.int o), some (.int (undF 0)), some (.int (0 + 1))], [.ref (sB + 200), .int (0 + 1)], [])) rfl ⟨(nI_vp (i := 0) (by decide) (by decide)), trivial⟩ ?_
    rw [show undF 0 = (-1) from by decide]
    rw [show (0 + 1 : Int32) = 1 from by decide]
    refine P0.b GX1_isUnder 2 (ob := []) (cf' := (if (6 : Int32) ≤ 1 then 38 else 12, [some (.int 0), some (.int o), some (.int (-1)), some (.int 1)], [], [])) rfl trivial ?_
    rw [if_neg (show ¬ ((6 : Int32) ≤ 1) from by decide)]
    refine P0.b GX1_isUnder 1 (ob := []) (cf' := (13, [some (.int 0), some (.int o), some (.int (-1)), some (.int 1)], [.int (-1)], [])) rfl trivial ?_
    refine P0.cr (io := []) (as := [.int (-1)]) (rest := []) (hc := []) (hc1 := []) (r1 := some (.int 0)) (st' := [.int 0]) (h' := []) (d0 := 0) GX1_isKind kX1_isUnder_13 rfl rfl (Nat.le_of_ble_eq_true rfl) (Nat.le_of_ble_eq_true rfl) rfl trivial (isKind_lm1) (Nat.le_of_ble_eq_true rfl) rfl (Nat.le_of_ble_eq_true rfl) (Nat.le_of_ble_eq_true rfl) rfl rfl ?_
    refine P0.b GX1_isUnder 1 (ob := []) (cf' := (if (0 : Int32) = 0 then 38 else 19, [some (.int 0), some (.int o), some (.int (-1)), some (.int 1)], [], [])) rfl trivial ?_
    rw [if_pos (show ((0 : Int32) = 0) from by decide)]
    refine P0.b GX1_isUnder 1 (ob := []) (cf' := (39, [some (.int 0), some (.int o), some (.int (-1)), some (.int 1)], [.int 0], [])) rfl trivial ?_
    exact P0.ri (by decide +kernel) rfl (by rfl) ⟨by simp [undB, h1, show ¬ o = 0 from fun z => h1 z.symm], rfl⟩
set_option maxHeartbeats 1000000 in
theorem isUnder_1 (o : Int32) : P0 1 0 0 mX1_isUnder (0, ent 4 [.int 1, .int o], [], []) (fun r h' => r = some (.int (if undB 1 o = true then 1 else 0)) ∧ h' = []) := by
  refine P0.b GX1_isUnder 8 (ob := []) (cf' := (if (6 : Int32) ≤ 0 then 38 else 12, [some (.int 1), some (.int o), some (.int 1), some (.int 0)], [], [])) rfl trivial ?_
  rw [if_neg (show ¬ ((6 : Int32) ≤ 0) from by decide)]
  refine P0.b GX1_isUnder 1 (ob := []) (cf' := (13, [some (.int 1), some (.int o), some (.int 1), some (.int 0)], [.int 1], [])) rfl trivial ?_
  refine P0.cr (io := []) (as := [.int 1]) (rest := []) (hc := []) (hc1 := []) (r1 := some (.int 1)) (st' := [.int 1]) (h' := []) (d0 := 0) GX1_isKind kX1_isUnder_13 rfl rfl (Nat.le_of_ble_eq_true rfl) (Nat.le_of_ble_eq_true rfl) rfl trivial (isKind_l1) (Nat.le_of_ble_eq_true rfl) rfl (Nat.le_of_ble_eq_true rfl) (Nat.le_of_ble_eq_true rfl) rfl rfl ?_
  refine P0.b GX1_isUnder 1 (ob := []) (cf' := (if (1 : Int32) = 0 then 38 else 19, [some (.int 1), some (.int o), some (.int 1), some (.int 0)], [], [])) rfl trivial ?_
  rw [if_neg (show ¬ ((1 : Int32) = 0) from by decide)]
  refine P0.b GX1_isUnder 3 (ob := []) (cf' := (if 1 = o then 24 else 26, [some (.int 1), some (.int o), some (.int 1), some (.int 0)], [], [])) rfl trivial ?_
  refine P0.if (fun h1 => ?_) (fun h1 => ?_)
  · refine P0.b GX1_isUnder 1 (ob := []) (cf' := (25, [some (.int 1), some (.int o), some (.int 1), some (.int 0)], [.int 1], [])) rfl trivial ?_
    exact P0.ri (by decide +kernel) rfl (by rfl) ⟨by simp [undB, h1.symm], rfl⟩
  · refine P0.b GX1_isUnder 8 (ob := [vp_in 1 6]) (cf' := (8, [some (.int 1), some (.int o), some (.int (undF 1)), some (.int (0 + 1))], [.ref (sB + 200), .int (0 + 1)], [])) rfl ⟨(nI_vp (i := 1) (by decide) (by decide)), trivial⟩ ?_
    rw [show undF 1 = 0 from by decide]
    rw [show (0 + 1 : Int32) = 1 from by decide]
    refine P0.b GX1_isUnder 2 (ob := []) (cf' := (if (6 : Int32) ≤ 1 then 38 else 12, [some (.int 1), some (.int o), some (.int 0), some (.int 1)], [], [])) rfl trivial ?_
    rw [if_neg (show ¬ ((6 : Int32) ≤ 1) from by decide)]
    refine P0.b GX1_isUnder 1 (ob := []) (cf' := (13, [some (.int 1), some (.int o), some (.int 0), some (.int 1)], [.int 0], [])) rfl trivial ?_
    refine P0.cr (io := []) (as := [.int 0]) (rest := []) (hc := []) (hc1 := []) (r1 := some (.int 1)) (st' := [.int 1]) (h' := []) (d0 := 0) GX1_isKind kX1_isUnder_13 rfl rfl (Nat.le_of_ble_eq_true rfl) (Nat.le_of_ble_eq_true rfl) rfl trivial (isKind_l0) (Nat.le_of_ble_eq_true rfl) rfl (Nat.le_of_ble_eq_true rfl) (Nat.le_of_ble_eq_true rfl) rfl rfl ?_
    refine P0.b GX1_isUnder 1 (ob := []) (cf' := (if (1 : Int32) = 0 then 38 else 19, [some (.int 1), some (.int o), some (.int 0), some (.int 1)], [], [])) rfl trivial ?_
    rw [if_neg (show ¬ ((1 : Int32) = 0) from by decide)]
    refine P0.b GX1_isUnder 3 (ob := []) (cf' := (if 0 = o then 24 else 26, [some (.int 1), some (.int o), some (.int 0), some (.int 1)], [], [])) rfl trivial ?_
    refine P0.if (fun h2 => ?_) (fun h2 => ?_)
    · refine P0.b GX1_isUnder 1 (ob := []) (cf' := (25, [some (.int 1), some (.int o), some (.int 0), some (.int 1)], [.int 1], [])) rfl trivial ?_
      exact P0.ri (by decide +kernel) rfl (by rfl) ⟨by simp [undB, h1, show ¬ o = 1 from fun z => h1 z.symm, h2.symm], rfl⟩
    · refine P0.b GX1_isUnder 8 (ob := [vp_in 0 6]) (cf' := (8, [some (.int 1), some (.int o), some (.int (undF 0)), some (.int (1 + 1))], [.ref (sB + 200), .int (1 + 1)], [])) rfl ⟨(nI_vp (i := 0) (by decide) (by decide)), trivial⟩ ?_
      rw [show undF 0 = (-1) from by decide]
      rw [show (1 + 1 : Int32) = 2 from by decide]
      refine P0.b GX1_isUnder 2 (ob := []) (cf' := (if (6 : Int32) ≤ 2 then 38 else 12, [some (.int 1), some (.int o), some (.int (-1)), some (.int 2)], [], [])) rfl trivial ?_
      rw [if_neg (show ¬ ((6 : Int32) ≤ 2) from by decide)]
      refine P0.b GX1_isUnder 1 (ob := []) (cf' := (13, [some (.int 1), some (.int o), some (.int (-1)), some (.int 2)], [.int (-1)], [])) rfl trivial ?_
      refine P0.cr (io := []) (as := [.int (-1)]) (rest := []) (hc := []) (hc1 := []) (r1 := some (.int 0)) (st' := [.int 0]) (h' := []) (d0 := 0) GX1_isKind kX1_isUnder_13 rfl rfl (Nat.le_of_ble_eq_true rfl) (Nat.le_of_ble_eq_true rfl) rfl trivial (isKind_lm1) (Nat.le_of_ble_eq_true rfl) rfl (Nat.le_of_ble_eq_true rfl) (Nat.le_of_ble_eq_true rfl) rfl rfl ?_
      refine P0.b GX1_isUnder 1 (ob := []) (cf' := (if (0 : Int32) = 0 then 38 else 19, [some (.int 1), some (.int o), some (.int (-1)), some (.int 2)], [], [])) rfl trivial ?_
      rw [if_pos (show ((0 : Int32) = 0) from by decide)]
      refine P0.b GX1_isUnder 1 (ob := []) (cf' := (39, [some (.int 1), some (.int o), some (.int (-1)), some (.int 2)], [.int 0], [])) rfl trivial ?_
      exact P0.ri (by decide +kernel) rfl (by rfl) ⟨by simp [undB, h1, show ¬ o = 1 from fun z => h1 z.symm, h2, show ¬ o = 0 from fun z => h2 z.symm], rfl⟩
set_option maxHeartbeats 1000000 in
theorem isUnder_2 (o : Int32) : P0 1 0 0 mX1_isUnder (0, ent 4 [.int 2, .int o], [], []) (fun r h' => r = some (.int (if undB 2 o = true then 1 else 0)) ∧ h' = []) := by
  refine P0.b GX1_isUnder 8 (ob := []) (cf' := (if (6 : Int32) ≤ 0 then 38 else 12, [some (.int 2), some (.int o), some (.int 2), some (.int 0)], [], [])) rfl trivial ?_
  rw [if_neg (show ¬ ((6 : Int32) ≤ 0) from by decide)]
  refine P0.b GX1_isUnder 1 (ob := []) (cf' := (13, [some (.int 2), some (.int o), some (.int 2), some (.int 0)], [.int 2], [])) rfl trivial ?_
  refine P0.cr (io := []) (as := [.int 2]) (rest := []) (hc := []) (hc1 := []) (r1 := some (.int 1)) (st' := [.int 1]) (h' := []) (d0 := 0) GX1_isKind kX1_isUnder_13 rfl rfl (Nat.le_of_ble_eq_true rfl) (Nat.le_of_ble_eq_true rfl) rfl trivial (isKind_l2) (Nat.le_of_ble_eq_true rfl) rfl (Nat.le_of_ble_eq_true rfl) (Nat.le_of_ble_eq_true rfl) rfl rfl ?_
  refine P0.b GX1_isUnder 1 (ob := []) (cf' := (if (1 : Int32) = 0 then 38 else 19, [some (.int 2), some (.int o), some (.int 2), some (.int 0)], [], [])) rfl trivial ?_
  rw [if_neg (show ¬ ((1 : Int32) = 0) from by decide)]
  refine P0.b GX1_isUnder 3 (ob := []) (cf' := (if 2 = o then 24 else 26, [some (.int 2), some (.int o), some (.int 2), some (.int 0)], [], [])) rfl trivial ?_
  refine P0.if (fun h1 => ?_) (fun h1 => ?_)
  · refine P0.b GX1_isUnder 1 (ob := []) (cf' := (25, [some (.int 2), some (.int o), some (.int 2), some (.int 0)], [.int 1], [])) rfl trivial ?_
    exact P0.ri (by decide +kernel) rfl (by rfl) ⟨by simp [undB, h1.symm], rfl⟩
  · refine P0.b GX1_isUnder 8 (ob := [vp_in 2 6]) (cf' := (8, [some (.int 2), some (.int o), some (.int (undF 2)), some (.int (0 + 1))], [.ref (sB + 200), .int (0 + 1)], [])) rfl ⟨(nI_vp (i := 2) (by decide) (by decide)), trivial⟩ ?_
    rw [show undF 2 = 0 from by decide]
    rw [show (0 + 1 : Int32) = 1 from by decide]
    refine P0.b GX1_isUnder 2 (ob := []) (cf' := (if (6 : Int32) ≤ 1 then 38 else 12, [some (.int 2), some (.int o), some (.int 0), some (.int 1)], [], [])) rfl trivial ?_
    rw [if_neg (show ¬ ((6 : Int32) ≤ 1) from by decide)]
    refine P0.b GX1_isUnder 1 (ob := []) (cf' := (13, [some (.int 2), some (.int o), some (.int 0), some (.int 1)], [.int 0], [])) rfl trivial ?_
    refine P0.cr (io := []) (as := [.int 0]) (rest := []) (hc := []) (hc1 := []) (r1 := some (.int 1)) (st' := [.int 1]) (h' := []) (d0 := 0) GX1_isKind kX1_isUnder_13 rfl rfl (Nat.le_of_ble_eq_true rfl) (Nat.le_of_ble_eq_true rfl) rfl trivial (isKind_l0) (Nat.le_of_ble_eq_true rfl) rfl (Nat.le_of_ble_eq_true rfl) (Nat.le_of_ble_eq_true rfl) rfl rfl ?_
    refine P0.b GX1_isUnder 1 (ob := []) (cf' := (if (1 : Int32) = 0 then 38 else 19, [some (.int 2), some (.int o), some (.int 0), some (.int 1)], [], [])) rfl trivial ?_
    rw [if_neg (show ¬ ((1 : Int32) = 0) from by decide)]
    refine P0.b GX1_isUnder 3 (ob := []) (cf' := (if 0 = o then 24 else 26, [some (.int 2), some (.int o), some (.int 0), some (.int 1)], [], [])) rfl trivial ?_
    refine P0.if (fun h2 => ?_) (fun h2 => ?_)
    · refine P0.b GX1_isUnder 1 (ob := []) (cf' := (25, [some (.int 2), some (.int o), some (.int 0), some (.int 1)], [.int 1], [])) rfl trivial ?_
      exact P0.ri (by decide +kernel) rfl (by rfl) ⟨by simp [undB, h1, show ¬ o = 2 from fun z => h1 z.symm, h2.symm], rfl⟩
    · refine P0.b GX1_isUnder 8 (ob := [vp_in 0 6]) (cf' := (8, [some (.int 2), some (.int o), some (.int (undF 0)), some (.int (1 + 1))], [.ref (sB + 200), .int (1 + 1)], [])) rfl ⟨(nI_vp (i := 0) (by decide) (by decide)), trivial⟩ ?_
      rw [show undF 0 = (-1) from by decide]
      rw [show (1 + 1 : Int32) = 2 from by decide]
      refine P0.b GX1_isUnder 2 (ob := []) (cf' := (if (6 : Int32) ≤ 2 then 38 else 12, [some (.int 2), some (.int o), some (.int (-1)), some (.int 2)], [], [])) rfl trivial ?_
      rw [if_neg (show ¬ ((6 : Int32) ≤ 2) from by decide)]
      refine P0.b GX1_isUnder 1 (ob := []) (cf' := (13, [some (.int 2), some (.int o), some (.int (-1)), some (.int 2)], [.int (-1)], [])) rfl trivial ?_
      refine P0.cr (io := []) (as := [.int (-1)]) (rest := []) (hc := []) (hc1 := []) (r1 := some (.int 0)) (st' := [.int 0]) (h' := []) (d0 := 0) GX1_isKind kX1_isUnder_13 rfl rfl (Nat.le_of_ble_eq_true rfl) (Nat.le_of_ble_eq_true rfl) rfl trivial (isKind_lm1) (Nat.le_of_ble_eq_true rfl) rfl (Nat.le_of_ble_eq_true rfl) (Nat.le_of_ble_eq_true rfl) rfl rfl ?_
      refine P0.b GX1_isUnder 1 (ob := []) (cf' := (if (0 : Int32) = 0 then 38 else 19, [some (.int 2), some (.int o), some (.int (-1)), some (.int 2)], [], [])) rfl trivial ?_
      rw [if_pos (show ((0 : Int32) = 0) from by decide)]
      refine P0.b GX1_isUnder 1 (ob := []) (cf' := (39, [some (.int 2), some (.int o), some (.int (-1)), some (.int 2)], [.int 0], [])) rfl trivial ?_
      exact P0.ri (by decide +kernel) rfl (by rfl) ⟨by simp [undB, h1, show ¬ o = 2 from fun z => h1 z.symm, h2, show ¬ o = 0 from fun z => h2 z.symm], rfl⟩
set_option maxHeartbeats 1000000 in
theorem isUnder_3 (o : Int32) : P0 1 0 0 mX1_isUnder (0, ent 4 [.int 3, .int o], [], []) (fun r h' => r = some (.int (if undB 3 o = true then 1 else 0)) ∧ h' = []) := by
  refine P0.b GX1_isUnder 8 (ob := []) (cf' := (if (6 : Int32) ≤ 0 then 38 else 12, [some (.int 3), some (.int o), some (.int 3), some (.int 0)], [], [])) rfl trivial ?_
  rw [if_neg (show ¬ ((6 : Int32) ≤ 0) from by decide)]
  refine P0.b GX1_isUnder 1 (ob := []) (cf' := (13, [some (.int 3), some (.int o), some (.int 3), some (.int 0)], [.int 3], [])) rfl trivial ?_
  refine P0.cr (io := []) (as := [.int 3]) (rest := []) (hc := []) (hc1 := []) (r1 := some (.int 1)) (st' := [.int 1]) (h' := []) (d0 := 0) GX1_isKind kX1_isUnder_13 rfl rfl (Nat.le_of_ble_eq_true rfl) (Nat.le_of_ble_eq_true rfl) rfl trivial (isKind_l3) (Nat.le_of_ble_eq_true rfl) rfl (Nat.le_of_ble_eq_true rfl) (Nat.le_of_ble_eq_true rfl) rfl rfl ?_
  refine P0.b GX1_isUnder 1 (ob := []) (cf' := (if (1 : Int32) = 0 then 38 else 19, [some (.int 3), some (.int o), some (.int 3), some (.int 0)], [], [])) rfl trivial ?_
  rw [if_neg (show ¬ ((1 : Int32) = 0) from by decide)]
  refine P0.b GX1_isUnder 3 (ob := []) (cf' := (if 3 = o then 24 else 26, [some (.int 3), some (.int o), some (.int 3), some (.int 0)], [], [])) rfl trivial ?_
  refine P0.if (fun h1 => ?_) (fun h1 => ?_)
  · refine P0.b GX1_isUnder 1 (ob := []) (cf' := (25, [some (.int 3), some (.int o), some (.int 3), some (.int 0)], [.int 1], [])) rfl trivial ?_
    exact P0.ri (by decide +kernel) rfl (by rfl) ⟨by simp [undB, h1.symm], rfl⟩
  · refine P0.b GX1_isUnder 8 (ob := [vp_in 3 6]) (cf' := (8, [some (.int 3), some (.int o), some (.int (undF 3)), some (.int (0 + 1))], [.ref (sB + 200), .int (0 + 1)], [])) rfl ⟨(nI_vp (i := 3) (by decide) (by decide)), trivial⟩ ?_
    rw [show undF 3 = 1 from by decide]
    rw [show (0 + 1 : Int32) = 1 from by decide]
    refine P0.b GX1_isUnder 2 (ob := []) (cf' := (if (6 : Int32) ≤ 1 then 38 else 12, [some (.int 3), some (.int o), some (.int 1), some (.int 1)], [], [])) rfl trivial ?_
    rw [if_neg (show ¬ ((6 : Int32) ≤ 1) from by decide)]
    refine P0.b GX1_isUnder 1 (ob := []) (cf' := (13, [some (.int 3), some (.int o), some (.int 1), some (.int 1)], [.int 1], [])) rfl trivial ?_
    refine P0.cr (io := []) (as := [.int 1]) (rest := []) (hc := []) (hc1 := []) (r1 := some (.int 1)) (st' := [.int 1]) (h' := []) (d0 := 0) GX1_isKind kX1_isUnder_13 rfl rfl (Nat.le_of_ble_eq_true rfl) (Nat.le_of_ble_eq_true rfl) rfl trivial (isKind_l1) (Nat.le_of_ble_eq_true rfl) rfl (Nat.le_of_ble_eq_true rfl) (Nat.le_of_ble_eq_true rfl) rfl rfl ?_
    refine P0.b GX1_isUnder 1 (ob := []) (cf' := (if (1 : Int32) = 0 then 38 else 19, [some (.int 3), some (.int o), some (.int 1), some (.int 1)], [], [])) rfl trivial ?_
    rw [if_neg (show ¬ ((1 : Int32) = 0) from by decide)]
    refine P0.b GX1_isUnder 3 (ob := []) (cf' := (if 1 = o then 24 else 26, [some (.int 3), some (.int o), some (.int 1), some (.int 1)], [], [])) rfl trivial ?_
    refine P0.if (fun h2 => ?_) (fun h2 => ?_)
    · refine P0.b GX1_isUnder 1 (ob := []) (cf' := (25, [some (.int 3), some (.int o), some (.int 1), some (.int 1)], [.int 1], [])) rfl trivial ?_
      exact P0.ri (by decide +kernel) rfl (by rfl) ⟨by simp [undB, h1, show ¬ o = 3 from fun z => h1 z.symm, h2.symm], rfl⟩
    · refine P0.b GX1_isUnder 8 (ob := [vp_in 1 6]) (cf' := (8, [some (.int 3), some (.int o), some (.int (undF 1)), some (.int (1 + 1))], [.ref (sB + 200), .int (1 + 1)], [])) rfl ⟨(nI_vp (i := 1) (by decide) (by decide)), trivial⟩ ?_
      rw [show undF 1 = 0 from by decide]
      rw [show (1 + 1 : Int32) = 2 from by decide]
      refine P0.b GX1_isUnder 2 (ob := []) (cf' := (if (6 : Int32) ≤ 2 then 38 else 12, [some (.int 3), some (.int o), some (.int 0), some (.int 2)], [], [])) rfl trivial ?_
      rw [if_neg (show ¬ ((6 : Int32) ≤ 2) from by decide)]
      refine P0.b GX1_isUnder 1 (ob := []) (cf' := (13, [some (.int 3), some (.int o), some (.int 0), some (.int 2)], [.int 0], [])) rfl trivial ?_
      refine P0.cr (io := []) (as := [.int 0]) (rest := []) (hc := []) (hc1 := []) (r1 := some (.int 1)) (st' := [.int 1]) (h' := []) (d0 := 0) GX1_isKind kX1_isUnder_13 rfl rfl (Nat.le_of_ble_eq_true rfl) (Nat.le_of_ble_eq_true rfl) rfl trivial (isKind_l0) (Nat.le_of_ble_eq_true rfl) rfl (Nat.le_of_ble_eq_true rfl) (Nat.le_of_ble_eq_true rfl) rfl rfl ?_
      refine P0.b GX1_isUnder 1 (ob := []) (cf' := (if (1 : Int32) = 0 then 38 else 19, [some (.int 3), some (.int o), some (.int 0), some (.int 2)], [], [])) rfl trivial ?_
      rw [if_neg (show ¬ ((1 : Int32) = 0) from by decide)]
      refine P0.b GX1_isUnder 3 (ob := []) (cf' := (if 0 = o then 24 else 26, [some (.int 3), some (.int o), some (.int 0), some (.int 2)], [], [])) rfl trivial ?_
      refine P0.if (fun h3 => ?_) (fun h3 => ?_)
      · refine P0.b GX1_isUnder 1 (ob := []) (cf' := (25, [some (.int 3), some (.int o), some (.int 0), some (.int 2)], [.int 1], [])) rfl trivial ?_
        exact P0.ri (by decide +kernel) rfl (by rfl) ⟨by simp [undB, h1, show ¬ o = 3 from fun z => h1 z.symm, h2, show ¬ o = 1 from fun z => h2 z.symm, h3.symm], rfl⟩
      · refine P0.b GX1_isUnder 8 (ob := [vp_in 0 6]) (cf' := (8, [some (.int 3), some (.int o), some (.int (undF 0)), some (.int (2 + 1))], [.ref (sB + 200), .int (2 + 1)], [])) rfl ⟨(nI_vp (i := 0) (by decide) (by decide)), trivial⟩ ?_
        rw [show undF 0 = (-1) from by decide]
        rw [show (2 + 1 : Int32) = 3 from by decide]
        refine P0.b GX1_isUnder 2 (ob := []) (cf' := (if (6 : Int32) ≤ 3 then 38 else 12, [some (.int 3), some (.int o), some (.int (-1)), some (.int 3)], [], [])) rfl trivial ?_
        rw [if_neg (show ¬ ((6 : Int32) ≤ 3) from by decide)]
        refine P0.b GX1_isUnder 1 (ob := []) (cf' := (13, [some (.int 3), some (.int o), some (.int (-1)), some (.int 3)], [.int (-1)], [])) rfl trivial ?_
        refine P0.cr (io := []) (as := [.int (-1)]) (rest := []) (hc := []) (hc1 := []) (r1 := some (.int 0)) (st' := [.int 0]) (h' := []) (d0 := 0) GX1_isKind kX1_isUnder_13 rfl rfl (Nat.le_of_ble_eq_true rfl) (Nat.le_of_ble_eq_true rfl) rfl trivial (isKind_lm1) (Nat.le_of_ble_eq_true rfl) rfl (Nat.le_of_ble_eq_true rfl) (Nat.le_of_ble_eq_true rfl) rfl rfl ?_
        refine P0.b GX1_isUnder 1 (ob := []) (cf' := (if (0 : Int32) = 0 then 38 else 19, [some (.int 3), some (.int o), some (.int (-1)), some (.int 3)], [], [])) rfl trivial ?_
        rw [if_pos (show ((0 : Int32) = 0) from by decide)]
        refine P0.b GX1_isUnder 1 (ob := []) (cf' := (39, [some (.int 3), some (.int o), some (.int (-1)), some (.int 3)], [.int 0], [])) rfl trivial ?_
        exact P0.ri (by decide +kernel) rfl (by rfl) ⟨by simp [undB, h1, show ¬ o = 3 from fun z => h1 z.symm, h2, show ¬ o = 1 from fun z => h2 z.symm, h3, show ¬ o = 0 from fun z => h3 z.symm], rfl⟩
set_option maxHeartbeats 1000000 in
theorem isUnder_4 (o : Int32) : P0 1 0 0 mX1_isUnder (0, ent 4 [.int 4, .int o], [], []) (fun r h' => r = some (.int (if undB 4 o = true then 1 else 0)) ∧ h' = []) := by
  refine P0.b GX1_isUnder 8 (ob := []) (cf' := (if (6 : Int32) ≤ 0 then 38 else 12, [some (.int 4), some (.int o), some (.int 4), some (.int 0)], [], [])) rfl trivial ?_
  rw [if_neg (show ¬ ((6 : Int32) ≤ 0) from by decide)]
  refine P0.b GX1_isUnder 1 (ob := []) (cf' := (13, [some (.int 4), some (.int o), some (.int 4), some (.int 0)], [.int 4], [])) rfl trivial ?_
  refine P0.cr (io := []) (as := [.int 4]) (rest := []) (hc := []) (hc1 := []) (r1 := some (.int 1)) (st' := [.int 1]) (h' := []) (d0 := 0) GX1_isKind kX1_isUnder_13 rfl rfl (Nat.le_of_ble_eq_true rfl) (Nat.le_of_ble_eq_true rfl) rfl trivial (isKind_l4) (Nat.le_of_ble_eq_true rfl) rfl (Nat.le_of_ble_eq_true rfl) (Nat.le_of_ble_eq_true rfl) rfl rfl ?_
  refine P0.b GX1_isUnder 1 (ob := []) (cf' := (if (1 : Int32) = 0 then 38 else 19, [some (.int 4), some (.int o), some (.int 4), some (.int 0)], [], [])) rfl trivial ?_
  rw [if_neg (show ¬ ((1 : Int32) = 0) from by decide)]
  refine P0.b GX1_isUnder 3 (ob := []) (cf' := (if 4 = o then 24 else 26, [some (.int 4), some (.int o), some (.int 4), some (.int 0)], [], [])) rfl trivial ?_
  refine P0.if (fun h1 => ?_) (fun h1 => ?_)
  · refine P0.b GX1_isUnder 1 (ob := []) (cf' := (25, [some (.int 4), some (.int o), some (.int 4), some (.int 0)], [.int 1], [])) rfl trivial ?_
    exact P0.ri (by decide +kernel) rfl (by rfl) ⟨by simp [undB, h1.symm], rfl⟩
  · refine P0.b GX1_isUnder 8 (ob := [vp_in 4 6]) (cf' := (8, [some (.int 4), some (.int o), some (.int (undF 4)), some (.int (0 + 1))], [.ref (sB + 200), .int (0 + 1)], [])) rfl ⟨(nI_vp (i := 4) (by decide) (by decide)), trivial⟩ ?_
    rw [show undF 4 = 2 from by decide]
    rw [show (0 + 1 : Int32) = 1 from by decide]
    refine P0.b GX1_isUnder 2 (ob := []) (cf' := (if (6 : Int32) ≤ 1 then 38 else 12, [some (.int 4), some (.int o), some (.int 2), some (.int 1)], [], [])) rfl trivial ?_
    rw [if_neg (show ¬ ((6 : Int32) ≤ 1) from by decide)]
    refine P0.b GX1_isUnder 1 (ob := []) (cf' := (13, [some (.int 4), some (.int o), some (.int 2), some (.int 1)], [.int 2], [])) rfl trivial ?_
    refine P0.cr (io := []) (as := [.int 2]) (rest := []) (hc := []) (hc1 := []) (r1 := some (.int 1)) (st' := [.int 1]) (h' := []) (d0 := 0) GX1_isKind kX1_isUnder_13 rfl rfl (Nat.le_of_ble_eq_true rfl) (Nat.le_of_ble_eq_true rfl) rfl trivial (isKind_l2) (Nat.le_of_ble_eq_true rfl) rfl (Nat.le_of_ble_eq_true rfl) (Nat.le_of_ble_eq_true rfl) rfl rfl ?_
    refine P0.b GX1_isUnder 1 (ob := []) (cf' := (if (1 : Int32) = 0 then 38 else 19, [some (.int 4), some (.int o), some (.int 2), some (.int 1)], [], [])) rfl trivial ?_
    rw [if_neg (show ¬ ((1 : Int32) = 0) from by decide)]
    refine P0.b GX1_isUnder 3 (ob := []) (cf' := (if 2 = o then 24 else 26, [some (.int 4), some (.int o), some (.int 2), some (.int 1)], [], [])) rfl trivial ?_
    refine P0.if (fun h2 => ?_) (fun h2 => ?_)
    · refine P0.b GX1_isUnder 1 (ob := []) (cf' := (25, [some (.int 4), some (.int o), some (.int 2), some (.int 1)], [.int 1], [])) rfl trivial ?_
      exact P0.ri (by decide +kernel) rfl (by rfl) ⟨by simp [undB, h1, show ¬ o = 4 from fun z => h1 z.symm, h2.symm], rfl⟩
    · refine P0.b GX1_isUnder 8 (ob := [vp_in 2 6]) (cf' := (8, [some (.int 4), some (.int o), some (.int (undF 2)), some (.int (1 + 1))], [.ref (sB + 200), .int (1 + 1)], [])) rfl ⟨(nI_vp (i := 2) (by decide) (by decide)), trivial⟩ ?_
      rw [show undF 2 = 0 from by decide]
      rw [show (1 + 1 : Int32) = 2 from by decide]
      refine P0.b GX1_isUnder 2 (ob := []) (cf' := (if (6 : Int32) ≤ 2 then 38 else 12, [some (.int 4), some (.int o), some (.int 0), some (.int 2)], [], [])) rfl trivial ?_
      rw [if_neg (show ¬ ((6 : Int32) ≤ 2) from by decide)]
      refine P0.b GX1_isUnder 1 (ob := []) (cf' := (13, [some (.int 4), some (.int o), some (.int 0), some (.int 2)], [.int 0], [])) rfl trivial ?_
      refine P0.cr (io := []) (as := [.int 0]) (rest := []) (hc := []) (hc1 := []) (r1 := some (.int 1)) (st' := [.int 1]) (h' := []) (d0 := 0) GX1_isKind kX1_isUnder_13 rfl rfl (Nat.le_of_ble_eq_true rfl) (Nat.le_of_ble_eq_true rfl) rfl trivial (isKind_l0) (Nat.le_of_ble_eq_true rfl) rfl (Nat.le_of_ble_eq_true rfl) (Nat.le_of_ble_eq_true rfl) rfl rfl ?_
      refine P0.b GX1_isUnder 1 (ob := []) (cf' := (if (1 : Int32) = 0 then 38 else 19, [some (.int 4), some (.int o), some (.int 0), some (.int 2)], [], [])) rfl trivial ?_
      rw [if_neg (show ¬ ((1 : Int32) = 0) from by decide)]
      refine P0.b GX1_isUnder 3 (ob := []) (cf' := (if 0 = o then 24 else 26, [some (.int 4), some (.int o), some (.int 0), some (.int 2)], [], [])) rfl trivial ?_
      refine P0.if (fun h3 => ?_) (fun h3 => ?_)
      · refine P0.b GX1_isUnder 1 (ob := []) (cf' := (25, [some (.int 4), some (.int o), some (.int 0), some (.int 2)], [.int 1], [])) rfl trivial ?_
        exact P0.ri (by decide +kernel) rfl (by rfl) ⟨by simp [undB, h1, show ¬ o = 4 from fun z => h1 z.symm, h2, show ¬ o = 2 from fun z => h2 z.symm, h3.symm], rfl⟩
      · refine P0.b GX1_isUnder 8 (ob := [vp_in 0 6]) (cf' := (8, [some (.int 4), some (.int o), some (.int (undF 0)), some (.int (2 + 1))], [.ref (sB + 200), .int (2 + 1)], [])) rfl ⟨(nI_vp (i := 0) (by decide) (by decide)), trivial⟩ ?_
        rw [show undF 0 = (-1) from by decide]
        rw [show (2 + 1 : Int32) = 3 from by decide]
        refine P0.b GX1_isUnder 2 (ob := []) (cf' := (if (6 : Int32) ≤ 3 then 38 else 12, [some (.int 4), some (.int o), some (.int (-1)), some (.int 3)], [], [])) rfl trivial ?_
        rw [if_neg (show ¬ ((6 : Int32) ≤ 3) from by decide)]
        refine P0.b GX1_isUnder 1 (ob := []) (cf' := (13, [some (.int 4), some (.int o), some (.int (-1)), some (.int 3)], [.int (-1)], [])) rfl trivial ?_
        refine P0.cr (io := []) (as := [.int (-1)]) (rest := []) (hc := []) (hc1 := []) (r1 := some (.int 0)) (st' := [.int 0]) (h' := []) (d0 := 0) GX1_isKind kX1_isUnder_13 rfl rfl (Nat.le_of_ble_eq_true rfl) (Nat.le_of_ble_eq_true rfl) rfl trivial (isKind_lm1) (Nat.le_of_ble_eq_true rfl) rfl (Nat.le_of_ble_eq_true rfl) (Nat.le_of_ble_eq_true rfl) rfl rfl ?_
        refine P0.b GX1_isUnder 1 (ob := []) (cf' := (if (0 : Int32) = 0 then 38 else 19, [some (.int 4), some (.int o), some (.int (-1)), some (.int 3)], [], [])) rfl trivial ?_
        rw [if_pos (show ((0 : Int32) = 0) from by decide)]
        refine P0.b GX1_isUnder 1 (ob := []) (cf' := (39, [some (.int 4), some (.int o), some (.int (-1)), some (.int 3)], [.int 0], [])) rfl trivial ?_
        exact P0.ri (by decide +kernel) rfl (by rfl) ⟨by simp [undB, h1, show ¬ o = 4 from fun z => h1 z.symm, h2, show ¬ o = 2 from fun z => h2 z.symm, h3, show ¬ o = 0 from fun z => h3 z.symm], rfl⟩
set_option maxHeartbeats 1000000 in
theorem isUnder_5 (o : Int32) : P0 1 0 0 mX1_isUnder (0, ent 4 [.int 5, .int o], [], []) (fun r h' => r = some (.int (if undB 5 o = true then 1 else 0)) ∧ h' = []) := by
  refine P0.b GX1_isUnder 8 (ob := []) (cf' := (if (6 : Int32) ≤ 0 then 38 else 12, [some (.int 5), some (.int o), some (.int 5), some (.int 0)], [], [])) rfl trivial ?_
  rw [if_neg (show ¬ ((6 : Int32) ≤ 0) from by decide)]
  refine P0.b GX1_isUnder 1 (ob := []) (cf' := (13, [some (.int 5), some (.int o), some (.int 5), some (.int 0)], [.int 5], [])) rfl trivial ?_
  refine P0.cr (io := []) (as := [.int 5]) (rest := []) (hc := []) (hc1 := []) (r1 := some (.int 1)) (st' := [.int 1]) (h' := []) (d0 := 0) GX1_isKind kX1_isUnder_13 rfl rfl (Nat.le_of_ble_eq_true rfl) (Nat.le_of_ble_eq_true rfl) rfl trivial (isKind_l5) (Nat.le_of_ble_eq_true rfl) rfl (Nat.le_of_ble_eq_true rfl) (Nat.le_of_ble_eq_true rfl) rfl rfl ?_
  refine P0.b GX1_isUnder 1 (ob := []) (cf' := (if (1 : Int32) = 0 then 38 else 19, [some (.int 5), some (.int o), some (.int 5), some (.int 0)], [], [])) rfl trivial ?_
  rw [if_neg (show ¬ ((1 : Int32) = 0) from by decide)]
  refine P0.b GX1_isUnder 3 (ob := []) (cf' := (if 5 = o then 24 else 26, [some (.int 5), some (.int o), some (.int 5), some (.int 0)], [], [])) rfl trivial ?_
  refine P0.if (fun h1 => ?_) (fun h1 => ?_)
  · refine P0.b GX1_isUnder 1 (ob := []) (cf' := (25, [some (.int 5), some (.int o), some (.int 5), some (.int 0)], [.int 1], [])) rfl trivial ?_
    exact P0.ri (by decide +kernel) rfl (by rfl) ⟨by simp [undB, h1.symm], rfl⟩
  · refine P0.b GX1_isUnder 8 (ob := [vp_in 5 6]) (cf' := (8, [some (.int 5), some (.int o), some (.int (undF 5)), some (.int (0 + 1))], [.ref (sB + 200), .int (0 + 1)], [])) rfl ⟨(nI_vp (i := 5) (by decide) (by decide)), trivial⟩ ?_
    rw [show undF 5 = 0 from by decide]
    rw [show (0 + 1 : Int32) = 1 from by decide]
    refine P0.b GX1_isUnder 2 (ob := []) (cf' := (if (6 : Int32) ≤ 1 then 38 else 12, [some (.int 5), some (.int o), some (.int 0), some (.int 1)], [], [])) rfl trivial ?_
    rw [if_neg (show ¬ ((6 : Int32) ≤ 1) from by decide)]
    refine P0.b GX1_isUnder 1 (ob := []) (cf' := (13, [some (.int 5), some (.int o), some (.int 0), some (.int 1)], [.int 0], [])) rfl trivial ?_
    refine P0.cr (io := []) (as := [.int 0]) (rest := []) (hc := []) (hc1 := []) (r1 := some (.int 1)) (st' := [.int 1]) (h' := []) (d0 := 0) GX1_isKind kX1_isUnder_13 rfl rfl (Nat.le_of_ble_eq_true rfl) (Nat.le_of_ble_eq_true rfl) rfl trivial (isKind_l0) (Nat.le_of_ble_eq_true rfl) rfl (Nat.le_of_ble_eq_true rfl) (Nat.le_of_ble_eq_true rfl) rfl rfl ?_
    refine P0.b GX1_isUnder 1 (ob := []) (cf' := (if (1 : Int32) = 0 then 38 else 19, [some (.int 5), some (.int o), some (.int 0), some (.int 1)], [], [])) rfl trivial ?_
    rw [if_neg (show ¬ ((1 : Int32) = 0) from by decide)]
    refine P0.b GX1_isUnder 3 (ob := []) (cf' := (if 0 = o then 24 else 26, [some (.int 5), some (.int o), some (.int 0), some (.int 1)], [], [])) rfl trivial ?_
    refine P0.if (fun h2 => ?_) (fun h2 => ?_)
    · refine P0.b GX1_isUnder 1 (ob := []) (cf' := (25, [some (.int 5), some (.int o), some (.int 0), some (.int 1)], [.int 1], [])) rfl trivial ?_
      exact P0.ri (by decide +kernel) rfl (by rfl) ⟨by simp [undB, h1, show ¬ o = 5 from fun z => h1 z.symm, h2.symm], rfl⟩
    · refine P0.b GX1_isUnder 8 (ob := [vp_in 0 6]) (cf' := (8, [some (.int 5), some (.int o), some (.int (undF 0)), some (.int (1 + 1))], [.ref (sB + 200), .int (1 + 1)], [])) rfl ⟨(nI_vp (i := 0) (by decide) (by decide)), trivial⟩ ?_
      rw [show undF 0 = (-1) from by decide]
      rw [show (1 + 1 : Int32) = 2 from by decide]
      refine P0.b GX1_isUnder 2 (ob := []) (cf' := (if (6 : Int32) ≤ 2 then 38 else 12, [some (.int 5), some (.int o), some (.int (-1)), some (.int 2)], [], [])) rfl trivial ?_
      rw [if_neg (show ¬ ((6 : Int32) ≤ 2) from by decide)]
      refine P0.b GX1_isUnder 1 (ob := []) (cf' := (13, [some (.int 5), some (.int o), some (.int (-1)), some (.int 2)], [.int (-1)], [])) rfl trivial ?_
      refine P0.cr (io := []) (as := [.int (-1)]) (rest := []) (hc := []) (hc1 := []) (r1 := some (.int 0)) (st' := [.int 0]) (h' := []) (d0 := 0) GX1_isKind kX1_isUnder_13 rfl rfl (Nat.le_of_ble_eq_true rfl) (Nat.le_of_ble_eq_true rfl) rfl trivial (isKind_lm1) (Nat.le_of_ble_eq_true rfl) rfl (Nat.le_of_ble_eq_true rfl) (Nat.le_of_ble_eq_true rfl) rfl rfl ?_
      refine P0.b GX1_isUnder 1 (ob := []) (cf' := (if (0 : Int32) = 0 then 38 else 19, [some (.int 5), some (.int o), some (.int (-1)), some (.int 2)], [], [])) rfl trivial ?_
      rw [if_pos (show ((0 : Int32) = 0) from by decide)]
      refine P0.b GX1_isUnder 1 (ob := []) (cf' := (39, [some (.int 5), some (.int o), some (.int (-1)), some (.int 2)], [.int 0], [])) rfl trivial ?_
      exact P0.ri (by decide +kernel) rfl (by rfl) ⟨by simp [undB, h1, show ¬ o = 5 from fun z => h1 z.symm, h2, show ¬ o = 0 from fun z => h2 z.symm], rfl⟩
set_option maxHeartbeats 1000000 in
theorem isUnder_no {k : Int32} (o : Int32) (hk : ¬ (0 ≤ k ∧ k ≤ 5)) : P0 1 0 0 mX1_isUnder (0, ent 4 [.int k, .int o], [], []) (fun r h' => r = some (.int 0) ∧ h' = []) := by
  refine P0.b GX1_isUnder 8 (ob := []) (cf' := (if (6 : Int32) ≤ 0 then 38 else 12, [some (.int k), some (.int o), some (.int k), some (.int 0)], [], [])) rfl trivial ?_
  rw [if_neg (show ¬ ((6 : Int32) ≤ 0) from by decide)]
  refine P0.b GX1_isUnder 1 (ob := []) (cf' := (13, [some (.int k), some (.int o), some (.int k), some (.int 0)], [.int k], [])) rfl trivial ?_
  refine P0.cr (io := []) (as := [.int k]) (rest := []) (hc := []) (hc1 := []) (r1 := some (.int (if 0 ≤ k ∧ k ≤ 5 then 1 else 0))) (st' := [.int (if 0 ≤ k ∧ k ≤ 5 then 1 else 0)]) (h' := []) (d0 := 0) GX1_isKind kX1_isUnder_13 rfl rfl (Nat.le_of_ble_eq_true rfl) (Nat.le_of_ble_eq_true rfl) rfl trivial (isKind_n k) (Nat.le_of_ble_eq_true rfl) rfl (Nat.le_of_ble_eq_true rfl) (Nat.le_of_ble_eq_true rfl) rfl rfl ?_
  refine P0.b GX1_isUnder 1 (ob := []) (cf' := (if (if 0 ≤ k ∧ k ≤ 5 then 1 else 0) = 0 then 38 else 19, [some (.int k), some (.int o), some (.int k), some (.int 0)], [], [])) rfl trivial ?_
  rw [if_neg (show ¬ (0 ≤ k ∧ k ≤ 5) from hk), if_pos rfl]
  refine P0.b GX1_isUnder 1 (ob := []) (cf' := (39, [some (.int k), some (.int o), some (.int k), some (.int 0)], [.int 0], [])) rfl trivial ?_
  exact P0.ri (by decide +kernel) rfl (by rfl) ⟨rfl, rfl⟩
