/-! ===== laid by program (wip/tools) ===== -/
set_option maxHeartbeats 1000000 in
theorem setAge_y {g z : Nat → Int32} {a q u v b c y : Nat → Nat → Int32} {t tc : Nat} {TX : PH} (hO : TX.length ≤ 18) {w : Int32} (h : (0 ≤ w ∧ w ≤ 99)) : P0 1 0 0 mX10_setAge (0, ent 3 [.ref 0, .int w], [], hX g a q u v z b c y t tc TX) (fun r h' => r = some (.int (g 0)) ∧ h' = hX (upd g 0 w) a q u v z b c y t tc TX) := by
  refine P0.b GX10_setAge 2 (ob := []) (cf' := (3, [some (.ref 0), some (.int w), none], [.int 99, .int w], hX g a q u v z b c y t tc TX)) rfl trivial ?_
  refine P0.cr (io := []) (as := [.int w, .int 99]) (rest := []) (hc := []) (hc1 := []) (r1 := some (.int (if 0 ≤ w ∧ w ≤ 99 then 1 else 0))) (st' := [.int (if 0 ≤ w ∧ w ≤ 99 then 1 else 0)]) (h' := hX g a q u v z b c y t tc TX) (d0 := 0) GX10_isWithin kX10_setAge_3 rfl rfl (Nat.le_of_ble_eq_true rfl) (Nat.le_of_ble_eq_true rfl) rfl trivial (within_n w 99) (Nat.le_of_ble_eq_true rfl) rfl (Nat.le_of_ble_eq_true rfl) (hXl hO) rfl ((putL_f rfl).trans rfl) (?_)
  show P0 _ _ _ _ (6, [some (.ref 0), some (.int w), none], [.int (if 0 ≤ w ∧ w ≤ 99 then 1 else 0)], hX g a q u v z b c y t tc TX) _
  refine P0.b GX10_setAge 1 (ob := []) (cf' := (if (if 0 ≤ w ∧ w ≤ 99 then 1 else 0) = 0 then 9 else 12, [some (.ref 0), some (.int w), none], [], hX g a q u v z b c y t tc TX)) rfl trivial ?_
  rw [if_pos (show 0 ≤ w ∧ w ≤ 99 from h), if_neg (by decide)]
  refine P0.b GX10_setAge 6 (ob := []) (cf' := (22, [some (.ref 0), some (.int w), some (.int (g 0))], [], hX (upd g 0 w) a q u v z b c y t tc TX)) rfl trivial ?_
  refine P0.b GX10_setAge 1 (ob := []) (cf' := (23, [some (.ref 0), some (.int w), some (.int (g 0))], [.int (g 0)], hX (upd g 0 w) a q u v z b c y t tc TX)) rfl trivial ?_
  exact P0.ri (by decide +kernel) rfl rfl ⟨rfl, rfl⟩
set_option maxHeartbeats 1000000 in
theorem setAge_n {g z : Nat → Int32} {a q u v b c y : Nat → Nat → Int32} {t tc : Nat} {TX : PH} (hO : TX.length ≤ 18) {w : Int32} (h : ¬ (0 ≤ w ∧ w ≤ 99)) : P0 1 0 0 mX10_setAge (0, ent 3 [.ref 0, .int w], [], hX g a q u v z b c y t tc TX) (fun r h' => r = some (.int (-2)) ∧ h' = hX g a q u v z b c y t tc TX) := by
  refine P0.b GX10_setAge 2 (ob := []) (cf' := (3, [some (.ref 0), some (.int w), none], [.int 99, .int w], hX g a q u v z b c y t tc TX)) rfl trivial ?_
  refine P0.cr (io := []) (as := [.int w, .int 99]) (rest := []) (hc := []) (hc1 := []) (r1 := some (.int (if 0 ≤ w ∧ w ≤ 99 then 1 else 0))) (st' := [.int (if 0 ≤ w ∧ w ≤ 99 then 1 else 0)]) (h' := hX g a q u v z b c y t tc TX) (d0 := 0) GX10_isWithin kX10_setAge_3 rfl rfl (Nat.le_of_ble_eq_true rfl) (Nat.le_of_ble_eq_true rfl) rfl trivial (within_n w 99) (Nat.le_of_ble_eq_true rfl) rfl (Nat.le_of_ble_eq_true rfl) (hXl hO) rfl ((putL_f rfl).trans rfl) (?_)
  show P0 _ _ _ _ (6, [some (.ref 0), some (.int w), none], [.int (if 0 ≤ w ∧ w ≤ 99 then 1 else 0)], hX g a q u v z b c y t tc TX) _
  refine P0.b GX10_setAge 1 (ob := []) (cf' := (if (if 0 ≤ w ∧ w ≤ 99 then 1 else 0) = 0 then 9 else 12, [some (.ref 0), some (.int w), none], [], hX g a q u v z b c y t tc TX)) rfl trivial ?_
  rw [if_neg (show ¬ (0 ≤ w ∧ w ≤ 99) from h), if_pos rfl]
  refine P0.b GX10_setAge 1 (ob := []) (cf' := (11, [some (.ref 0), some (.int w), none], [.int (-2)], hX g a q u v z b c y t tc TX)) rfl trivial ?_
  exact P0.ri (by decide +kernel) rfl rfl ⟨rfl, rfl⟩
set_option maxHeartbeats 1000000 in
theorem setDoing_y {g z : Nat → Int32} {a q u v b c y : Nat → Nat → Int32} {t tc : Nat} {TX : PH} (hO : TX.length ≤ 18) {s : Nat} (hs : s < 6) {w : Int32} (h : 0 ≤ w ∧ w ≤ 3) : P0 1 0 0 mX10_setDoing (0, ent 4 [.ref 0, .int (nI s), .int w], [], hX g a q u v z b c y t tc TX) (fun r h' => r = some (.int (a 1 s)) ∧ h' = hX g (up2 a 1 (upd (a 1) s w)) q u v z b c y t tc TX) := by
  refine P0.b GX10_setDoing 1 (ob := []) (cf' := (1, [some (.ref 0), some (.int (nI s)), some (.int w), none], [.int (nI s)], hX g a q u v z b c y t tc TX)) rfl trivial ?_
  refine P0.cr (io := []) (as := [.int (nI s)]) (rest := []) (hc := []) (hc1 := []) (r1 := some (.int (if 0 ≤ nI s ∧ nI s ≤ 5 then 1 else 0))) (st' := [.int (if 0 ≤ nI s ∧ nI s ≤ 5 then 1 else 0)]) (h' := hX g a q u v z b c y t tc TX) (d0 := 0) GX10_isStep kX10_setDoing_1 rfl rfl (Nat.le_of_ble_eq_true rfl) (Nat.le_of_ble_eq_true rfl) rfl trivial (isStep_n (nI s)) (Nat.le_of_ble_eq_true rfl) rfl (Nat.le_of_ble_eq_true rfl) (hXl hO) rfl ((putL_f rfl).trans rfl) (?_)
  show P0 _ _ _ _ (4, [some (.ref 0), some (.int (nI s)), some (.int w), none], [.int (if 0 ≤ nI s ∧ nI s ≤ 5 then 1 else 0)], hX g a q u v z b c y t tc TX) _
  refine P0.b GX10_setDoing 1 (ob := []) (cf' := (if (if 0 ≤ nI s ∧ nI s ≤ 5 then 1 else 0) = 0 then 15 else 7, [some (.ref 0), some (.int (nI s)), some (.int w), none], [], hX g a q u v z b c y t tc TX)) rfl trivial ?_
  rw [if_pos (show 0 ≤ nI s ∧ nI s ≤ 5 from ⟨nI_pos' (by omega), nI_le (b := 5) (by omega) (by decide)⟩), if_neg (by decide)]
  refine P0.b GX10_setDoing 2 (ob := []) (cf' := (9, [some (.ref 0), some (.int (nI s)), some (.int w), none], [.int 3, .int w], hX g a q u v z b c y t tc TX)) rfl trivial ?_
  refine P0.cr (io := []) (as := [.int w, .int 3]) (rest := []) (hc := []) (hc1 := []) (r1 := some (.int (if 0 ≤ w ∧ w ≤ 3 then 1 else 0))) (st' := [.int (if 0 ≤ w ∧ w ≤ 3 then 1 else 0)]) (h' := hX g a q u v z b c y t tc TX) (d0 := 0) GX10_isWithin kX10_setDoing_9 rfl rfl (Nat.le_of_ble_eq_true rfl) (Nat.le_of_ble_eq_true rfl) rfl trivial (within_n w 3) (Nat.le_of_ble_eq_true rfl) rfl (Nat.le_of_ble_eq_true rfl) (hXl hO) rfl ((putL_f rfl).trans rfl) (?_)
  show P0 _ _ _ _ (12, [some (.ref 0), some (.int (nI s)), some (.int w), none], [.int (if 0 ≤ w ∧ w ≤ 3 then 1 else 0)], hX g a q u v z b c y t tc TX) _
  refine P0.b GX10_setDoing 1 (ob := []) (cf' := (if (if 0 ≤ w ∧ w ≤ 3 then 1 else 0) = 0 then 15 else 18, [some (.ref 0), some (.int (nI s)), some (.int w), none], [], hX g a q u v z b c y t tc TX)) rfl trivial ?_
  rw [if_pos (show 0 ≤ w ∧ w ≤ 3 from h), if_neg (by decide)]
  refine P0.b GX10_setDoing 3 (ob := []) (cf' := (23, [some (.ref 0), some (.int (nI s)), some (.int w), none], [.int (nI s), .ref 1], hX g a q u v z b c y t tc TX)) rfl trivial ?_
  refine P0.cr (io := [1]) (as := [.ref 0, .int (nI s)]) (rest := []) (hc := [pI 6 (a 1)]) (hc1 := [pI 6 (a 1)]) (r1 := some (.int ((a 1) s))) (st' := [.int ((a 1) s)]) (h' := hX g a q u v z b c y t tc TX) (d0 := 0) GX5_at kX10_setDoing_23 rfl rfl (Nat.le_of_ble_eq_true rfl) (Nat.le_of_ble_eq_true rfl) rfl ⟨rfl, trivial⟩ (at_in (n := 6) (by decide) (a 1) (k := s) (by omega)) (Nat.le_of_ble_eq_true rfl) rfl (Nat.le_of_ble_eq_true rfl) (hXl hO) rfl ((putL_f rfl).trans rfl) (?_)
  show P0 _ _ _ _ (26, [some (.ref 0), some (.int (nI s)), some (.int w), none], [.int ((a 1) s)], hX g a q u v z b c y t tc TX) _
  refine P0.b GX10_setDoing 5 (ob := []) (cf' := (33, [some (.ref 0), some (.int (nI s)), some (.int w), some (.int ((a 1) s))], [.int w, .int (nI s), .ref 1], hX g a q u v z b c y t tc TX)) rfl trivial ?_
  refine P0.cr (io := [1]) (as := [.ref 0, .int (nI s), .int w]) (rest := []) (hc := [pI 6 (a 1)]) (hc1 := [pI 6 (upd (a 1) s w)]) (r1 := none) (st' := []) (h' := hX g (up2 a 1 (upd (a 1) s w)) q u v z b c y t tc TX) (d0 := 0) GX5_put kX10_setDoing_33 rfl rfl (Nat.le_of_ble_eq_true rfl) (Nat.le_of_ble_eq_true rfl) rfl ⟨rfl, trivial⟩ (put_in (n := 6) (by decide) (a 1) (k := s) (by omega) w) (Nat.le_of_ble_eq_true rfl) rfl (Nat.le_of_ble_eq_true rfl) (hXl hO) rfl ((putL_f rfl).trans rfl) (?_)
  show P0 _ _ _ _ (36, [some (.ref 0), some (.int (nI s)), some (.int w), some (.int ((a 1) s))], [], hX g (up2 a 1 (upd (a 1) s w)) q u v z b c y t tc TX) _
  refine P0.b GX10_setDoing 1 (ob := []) (cf' := (37, [some (.ref 0), some (.int (nI s)), some (.int w), some (.int ((a 1) s))], [.int ((a 1) s)], hX g (up2 a 1 (upd (a 1) s w)) q u v z b c y t tc TX)) rfl trivial ?_
  exact P0.ri (by decide +kernel) rfl rfl ⟨rfl, rfl⟩
set_option maxHeartbeats 1000000 in
theorem setDoing_n {g z : Nat → Int32} {a q u v b c y : Nat → Nat → Int32} {t tc : Nat} {TX : PH} (hO : TX.length ≤ 18) {i w : Int32} (h : ¬ ((0 ≤ i ∧ i ≤ 5) ∧ 0 ≤ w ∧ w ≤ 3)) : P0 1 0 0 mX10_setDoing (0, ent 4 [.ref 0, .int i, .int w], [], hX g a q u v z b c y t tc TX) (fun r h' => r = some (.int (-2)) ∧ h' = hX g a q u v z b c y t tc TX) := by
  refine P0.b GX10_setDoing 1 (ob := []) (cf' := (1, [some (.ref 0), some (.int i), some (.int w), none], [.int i], hX g a q u v z b c y t tc TX)) rfl trivial ?_
  refine P0.cr (io := []) (as := [.int i]) (rest := []) (hc := []) (hc1 := []) (r1 := some (.int (if 0 ≤ i ∧ i ≤ 5 then 1 else 0))) (st' := [.int (if 0 ≤ i ∧ i ≤ 5 then 1 else 0)]) (h' := hX g a q u v z b c y t tc TX) (d0 := 0) GX10_isStep kX10_setDoing_1 rfl rfl (Nat.le_of_ble_eq_true rfl) (Nat.le_of_ble_eq_true rfl) rfl trivial (isStep_n i) (Nat.le_of_ble_eq_true rfl) rfl (Nat.le_of_ble_eq_true rfl) (hXl hO) rfl ((putL_f rfl).trans rfl) (?_)
  show P0 _ _ _ _ (4, [some (.ref 0), some (.int i), some (.int w), none], [.int (if 0 ≤ i ∧ i ≤ 5 then 1 else 0)], hX g a q u v z b c y t tc TX) _
  refine P0.b GX10_setDoing 1 (ob := []) (cf' := (if (if 0 ≤ i ∧ i ≤ 5 then 1 else 0) = 0 then 15 else 7, [some (.ref 0), some (.int i), some (.int w), none], [], hX g a q u v z b c y t tc TX)) rfl trivial ?_
  refine P0.ifB (fun h1 => ?_) (fun h1 => ?_)
  · refine P0.b GX10_setDoing 1 (ob := []) (cf' := (17, [some (.ref 0), some (.int i), some (.int w), none], [.int (-2)], hX g a q u v z b c y t tc TX)) rfl trivial ?_
    exact P0.ri (by decide +kernel) rfl rfl ⟨rfl, rfl⟩
  · refine P0.b GX10_setDoing 2 (ob := []) (cf' := (9, [some (.ref 0), some (.int i), some (.int w), none], [.int 3, .int w], hX g a q u v z b c y t tc TX)) rfl trivial ?_
    refine P0.cr (io := []) (as := [.int w, .int 3]) (rest := []) (hc := []) (hc1 := []) (r1 := some (.int (if 0 ≤ w ∧ w ≤ 3 then 1 else 0))) (st' := [.int (if 0 ≤ w ∧ w ≤ 3 then 1 else 0)]) (h' := hX g a q u v z b c y t tc TX) (d0 := 0) GX10_isWithin kX10_setDoing_9 rfl rfl (Nat.le_of_ble_eq_true rfl) (Nat.le_of_ble_eq_true rfl) rfl trivial (within_n w 3) (Nat.le_of_ble_eq_true rfl) rfl (Nat.le_of_ble_eq_true rfl) (hXl hO) rfl ((putL_f rfl).trans rfl) (?_)
    show P0 _ _ _ _ (12, [some (.ref 0), some (.int i), some (.int w), none], [.int (if 0 ≤ w ∧ w ≤ 3 then 1 else 0)], hX g a q u v z b c y t tc TX) _
    refine P0.b GX10_setDoing 1 (ob := []) (cf' := (if (if 0 ≤ w ∧ w ≤ 3 then 1 else 0) = 0 then 15 else 18, [some (.ref 0), some (.int i), some (.int w), none], [], hX g a q u v z b c y t tc TX)) rfl trivial ?_
    rw [if_neg (show ¬ (0 ≤ w ∧ w ≤ 3) from fun z => h ⟨h1, z⟩), if_pos rfl]
    refine P0.b GX10_setDoing 1 (ob := []) (cf' := (17, [some (.ref 0), some (.int i), some (.int w), none], [.int (-2)], hX g a q u v z b c y t tc TX)) rfl trivial ?_
    exact P0.ri (by decide +kernel) rfl rfl ⟨rfl, rfl⟩
set_option maxHeartbeats 1000000 in
theorem setW_2 {g z : Nat → Int32} {a q u v b c y : Nat → Nat → Int32} {t tc : Nat} {TX : PH} (hO : TX.length ≤ 18) {x : Nat} (hx : x < 6) {w : Int32} (h : (0 ≤ w ∧ w ≤ 9)) : P0 1 0 0 mX10_setOfWitness (0, ent 5 [.int 2, .ref (26 + 2 * x), .int w], [], hX g a q u v z b c y t tc TX) (fun r h' => r = some (.int (q x 2)) ∧ h' = hX g a (up2 q x (upd (q x) 2 w)) u v z b c y t tc TX) := by
  refine P0.b GX10_setOfWitness 3 (ob := []) (cf' := (if (2 : Int32) = 2 then 5 else 10, [some (.int 2), some (.ref (26 + 2 * x)), some (.int w), none, none], [], hX g a q u v z b c y t tc TX)) rfl trivial ?_
  rw [if_pos (show ((2 : Int32) = 2) from by decide)]
  refine P0.b GX10_setOfWitness 7 (ob := []) (cf' := (28, [some (.int 2), some (.ref (26 + 2 * x)), some (.int w), some (.int 9), none], [.int 9, .int w], hX g a q u v z b c y t tc TX)) rfl trivial ?_
  refine P0.cr (io := []) (as := [.int w, .int 9]) (rest := []) (hc := []) (hc1 := []) (r1 := some (.int (if 0 ≤ w ∧ w ≤ 9 then 1 else 0))) (st' := [.int (if 0 ≤ w ∧ w ≤ 9 then 1 else 0)]) (h' := hX g a q u v z b c y t tc TX) (d0 := 0) GX10_isWithin kX10_setOfWitness_28 rfl rfl (Nat.le_of_ble_eq_true rfl) (Nat.le_of_ble_eq_true rfl) rfl trivial (within_n w 9) (Nat.le_of_ble_eq_true rfl) rfl (Nat.le_of_ble_eq_true rfl) (hXl hO) rfl ((putL_f rfl).trans rfl) (?_)
  show P0 _ _ _ _ (31, [some (.int 2), some (.ref (26 + 2 * x)), some (.int w), some (.int 9), none], [.int (if 0 ≤ w ∧ w ≤ 9 then 1 else 0)], hX g a q u v z b c y t tc TX) _
  refine P0.b GX10_setOfWitness 1 (ob := []) (cf' := (if (if 0 ≤ w ∧ w ≤ 9 then 1 else 0) = 0 then 34 else 37, [some (.int 2), some (.ref (26 + 2 * x)), some (.int w), some (.int 9), none], [], hX g a q u v z b c y t tc TX)) rfl trivial ?_
  rw [if_pos (show 0 ≤ w ∧ w ≤ 9 from h), if_neg (by decide)]
  refine P0.b GX10_setOfWitness 3 (ob := []) (cf' := (if (2 : Int32) = 2 then 42 else 56, [some (.int 2), some (.ref (26 + 2 * x)), some (.int w), some (.int 9), none], [], hX g a q u v z b c y t tc TX)) rfl trivial ?_
  rw [if_pos (show ((2 : Int32) = 2) from by decide)]
  refine P0.b GX10_setOfWitness 1 (ob := []) (cf' := (43, [some (.int 2), some (.ref (26 + 2 * x)), some (.int w), some (.int 9), none], [.ref (26 + 2 * x)], hX g a q u v z b c y t tc TX)) rfl trivial ?_
  refine P0.gt GX10_setOfWitness rfl (hX_w (by omega)) rfl ?_
  refine P0.b GX10_setOfWitness 3 (ob := []) (cf' := (50, [some (.int 2), some (.ref (26 + 2 * x)), some (.int w), some (.int 9), some (.int (q x 2))], [.int w, .ref (26 + 2 * x)], hX g a q u v z b c y t tc TX)) rfl trivial ?_
  refine P0.pt GX10_setOfWitness rfl (hX_w (by omega)) rfl (hX_q2 (by omega) w) ?_
  refine P0.b GX10_setOfWitness 2 (ob := []) (cf' := (88, [some (.int 2), some (.ref (26 + 2 * x)), some (.int w), some (.int 9), some (.int (q x 2))], [.int (q x 2)], hX g a (up2 q x (upd (q x) 2 w)) u v z b c y t tc TX)) rfl trivial ?_
  exact P0.ri (by decide +kernel) rfl rfl ⟨rfl, rfl⟩
set_option maxHeartbeats 1000000 in
theorem setW_2n {g z : Nat → Int32} {a q u v b c y : Nat → Nat → Int32} {t tc : Nat} {TX : PH} (hO : TX.length ≤ 18) {x : Nat} (hx : x < 6) {w : Int32} (h : ¬ (0 ≤ w ∧ w ≤ 9)) : P0 1 0 0 mX10_setOfWitness (0, ent 5 [.int 2, .ref (26 + 2 * x), .int w], [], hX g a q u v z b c y t tc TX) (fun r h' => r = some (.int (-2)) ∧ h' = hX g a q u v z b c y t tc TX) := by
  refine P0.b GX10_setOfWitness 3 (ob := []) (cf' := (if (2 : Int32) = 2 then 5 else 10, [some (.int 2), some (.ref (26 + 2 * x)), some (.int w), none, none], [], hX g a q u v z b c y t tc TX)) rfl trivial ?_
  rw [if_pos (show ((2 : Int32) = 2) from by decide)]
  refine P0.b GX10_setOfWitness 7 (ob := []) (cf' := (28, [some (.int 2), some (.ref (26 + 2 * x)), some (.int w), some (.int 9), none], [.int 9, .int w], hX g a q u v z b c y t tc TX)) rfl trivial ?_
  refine P0.cr (io := []) (as := [.int w, .int 9]) (rest := []) (hc := []) (hc1 := []) (r1 := some (.int (if 0 ≤ w ∧ w ≤ 9 then 1 else 0))) (st' := [.int (if 0 ≤ w ∧ w ≤ 9 then 1 else 0)]) (h' := hX g a q u v z b c y t tc TX) (d0 := 0) GX10_isWithin kX10_setOfWitness_28 rfl rfl (Nat.le_of_ble_eq_true rfl) (Nat.le_of_ble_eq_true rfl) rfl trivial (within_n w 9) (Nat.le_of_ble_eq_true rfl) rfl (Nat.le_of_ble_eq_true rfl) (hXl hO) rfl ((putL_f rfl).trans rfl) (?_)
  show P0 _ _ _ _ (31, [some (.int 2), some (.ref (26 + 2 * x)), some (.int w), some (.int 9), none], [.int (if 0 ≤ w ∧ w ≤ 9 then 1 else 0)], hX g a q u v z b c y t tc TX) _
  refine P0.b GX10_setOfWitness 1 (ob := []) (cf' := (if (if 0 ≤ w ∧ w ≤ 9 then 1 else 0) = 0 then 34 else 37, [some (.int 2), some (.ref (26 + 2 * x)), some (.int w), some (.int 9), none], [], hX g a q u v z b c y t tc TX)) rfl trivial ?_
  rw [if_neg (show ¬ (0 ≤ w ∧ w ≤ 9) from h), if_pos rfl]
  refine P0.b GX10_setOfWitness 1 (ob := []) (cf' := (36, [some (.int 2), some (.ref (26 + 2 * x)), some (.int w), some (.int 9), none], [.int (-2)], hX g a q u v z b c y t tc TX)) rfl trivial ?_
  exact P0.ri (by decide +kernel) rfl rfl ⟨rfl, rfl⟩
set_option maxHeartbeats 1000000 in
theorem setW_3 {g z : Nat → Int32} {a q u v b c y : Nat → Nat → Int32} {t tc : Nat} {TX : PH} (hO : TX.length ≤ 18) {x : Nat} (hx : x < 6) {w : Int32} (h : (0 ≤ w ∧ w ≤ 63)) : P0 1 0 0 mX10_setOfWitness (0, ent 5 [.int 3, .ref (26 + 2 * x), .int w], [], hX g a q u v z b c y t tc TX) (fun r h' => r = some (.int (q x 3)) ∧ h' = hX g a (up2 q x (upd (q x) 3 w)) u v z b c y t tc TX) := by
  refine P0.b GX10_setOfWitness 3 (ob := []) (cf' := (if (3 : Int32) = 2 then 5 else 10, [some (.int 3), some (.ref (26 + 2 * x)), some (.int w), none, none], [], hX g a q u v z b c y t tc TX)) rfl trivial ?_
  rw [if_neg (show ¬ ((3 : Int32) = 2) from by decide)]
  refine P0.b GX10_setOfWitness 3 (ob := []) (cf' := (if (3 : Int32) = 3 then 15 else 20, [some (.int 3), some (.ref (26 + 2 * x)), some (.int w), none, none], [], hX g a q u v z b c y t tc TX)) rfl trivial ?_
  rw [if_pos (show ((3 : Int32) = 3) from by decide)]
  refine P0.b GX10_setOfWitness 7 (ob := []) (cf' := (28, [some (.int 3), some (.ref (26 + 2 * x)), some (.int w), some (.int 63), none], [.int 63, .int w], hX g a q u v z b c y t tc TX)) rfl trivial ?_
  refine P0.cr (io := []) (as := [.int w, .int 63]) (rest := []) (hc := []) (hc1 := []) (r1 := some (.int (if 0 ≤ w ∧ w ≤ 63 then 1 else 0))) (st' := [.int (if 0 ≤ w ∧ w ≤ 63 then 1 else 0)]) (h' := hX g a q u v z b c y t tc TX) (d0 := 0) GX10_isWithin kX10_setOfWitness_28 rfl rfl (Nat.le_of_ble_eq_true rfl) (Nat.le_of_ble_eq_true rfl) rfl trivial (within_n w 63) (Nat.le_of_ble_eq_true rfl) rfl (Nat.le_of_ble_eq_true rfl) (hXl hO) rfl ((putL_f rfl).trans rfl) (?_)
  show P0 _ _ _ _ (31, [some (.int 3), some (.ref (26 + 2 * x)), some (.int w), some (.int 63), none], [.int (if 0 ≤ w ∧ w ≤ 63 then 1 else 0)], hX g a q u v z b c y t tc TX) _
  refine P0.b GX10_setOfWitness 1 (ob := []) (cf' := (if (if 0 ≤ w ∧ w ≤ 63 then 1 else 0) = 0 then 34 else 37, [some (.int 3), some (.ref (26 + 2 * x)), some (.int w), some (.int 63), none], [], hX g a q u v z b c y t tc TX)) rfl trivial ?_
  rw [if_pos (show 0 ≤ w ∧ w ≤ 63 from h), if_neg (by decide)]
  refine P0.b GX10_setOfWitness 3 (ob := []) (cf' := (if (3 : Int32) = 2 then 42 else 56, [some (.int 3), some (.ref (26 + 2 * x)), some (.int w), some (.int 63), none], [], hX g a q u v z b c y t tc TX)) rfl trivial ?_
  rw [if_neg (show ¬ ((3 : Int32) = 2) from by decide)]
  refine P0.b GX10_setOfWitness 3 (ob := []) (cf' := (if (3 : Int32) = 3 then 61 else 75, [some (.int 3), some (.ref (26 + 2 * x)), some (.int w), some (.int 63), none], [], hX g a q u v z b c y t tc TX)) rfl trivial ?_
  rw [if_pos (show ((3 : Int32) = 3) from by decide)]
  refine P0.b GX10_setOfWitness 1 (ob := []) (cf' := (62, [some (.int 3), some (.ref (26 + 2 * x)), some (.int w), some (.int 63), none], [.ref (26 + 2 * x)], hX g a q u v z b c y t tc TX)) rfl trivial ?_
  refine P0.gt GX10_setOfWitness rfl (hX_w (by omega)) rfl ?_
  refine P0.b GX10_setOfWitness 3 (ob := []) (cf' := (69, [some (.int 3), some (.ref (26 + 2 * x)), some (.int w), some (.int 63), some (.int (q x 3))], [.int w, .ref (26 + 2 * x)], hX g a q u v z b c y t tc TX)) rfl trivial ?_
  refine P0.pt GX10_setOfWitness rfl (hX_w (by omega)) rfl (hX_q3 (by omega) w) ?_
  refine P0.b GX10_setOfWitness 2 (ob := []) (cf' := (88, [some (.int 3), some (.ref (26 + 2 * x)), some (.int w), some (.int 63), some (.int (q x 3))], [.int (q x 3)], hX g a (up2 q x (upd (q x) 3 w)) u v z b c y t tc TX)) rfl trivial ?_
  exact P0.ri (by decide +kernel) rfl rfl ⟨rfl, rfl⟩
set_option maxHeartbeats 1000000 in
theorem setW_3n {g z : Nat → Int32} {a q u v b c y : Nat → Nat → Int32} {t tc : Nat} {TX : PH} (hO : TX.length ≤ 18) {x : Nat} (hx : x < 6) {w : Int32} (h : ¬ (0 ≤ w ∧ w ≤ 63)) : P0 1 0 0 mX10_setOfWitness (0, ent 5 [.int 3, .ref (26 + 2 * x), .int w], [], hX g a q u v z b c y t tc TX) (fun r h' => r = some (.int (-2)) ∧ h' = hX g a q u v z b c y t tc TX) := by
  refine P0.b GX10_setOfWitness 3 (ob := []) (cf' := (if (3 : Int32) = 2 then 5 else 10, [some (.int 3), some (.ref (26 + 2 * x)), some (.int w), none, none], [], hX g a q u v z b c y t tc TX)) rfl trivial ?_
  rw [if_neg (show ¬ ((3 : Int32) = 2) from by decide)]
  refine P0.b GX10_setOfWitness 3 (ob := []) (cf' := (if (3 : Int32) = 3 then 15 else 20, [some (.int 3), some (.ref (26 + 2 * x)), some (.int w), none, none], [], hX g a q u v z b c y t tc TX)) rfl trivial ?_
  rw [if_pos (show ((3 : Int32) = 3) from by decide)]
  refine P0.b GX10_setOfWitness 7 (ob := []) (cf' := (28, [some (.int 3), some (.ref (26 + 2 * x)), some (.int w), some (.int 63), none], [.int 63, .int w], hX g a q u v z b c y t tc TX)) rfl trivial ?_
  refine P0.cr (io := []) (as := [.int w, .int 63]) (rest := []) (hc := []) (hc1 := []) (r1 := some (.int (if 0 ≤ w ∧ w ≤ 63 then 1 else 0))) (st' := [.int (if 0 ≤ w ∧ w ≤ 63 then 1 else 0)]) (h' := hX g a q u v z b c y t tc TX) (d0 := 0) GX10_isWithin kX10_setOfWitness_28 rfl rfl (Nat.le_of_ble_eq_true rfl) (Nat.le_of_ble_eq_true rfl) rfl trivial (within_n w 63) (Nat.le_of_ble_eq_true rfl) rfl (Nat.le_of_ble_eq_true rfl) (hXl hO) rfl ((putL_f rfl).trans rfl) (?_)
  show P0 _ _ _ _ (31, [some (.int 3), some (.ref (26 + 2 * x)), some (.int w), some (.int 63), none], [.int (if 0 ≤ w ∧ w ≤ 63 then 1 else 0)], hX g a q u v z b c y t tc TX) _
  refine P0.b GX10_setOfWitness 1 (ob := []) (cf' := (if (if 0 ≤ w ∧ w ≤ 63 then 1 else 0) = 0 then 34 else 37, [some (.int 3), some (.ref (26 + 2 * x)), some (.int w), some (.int 63), none], [], hX g a q u v z b c y t tc TX)) rfl trivial ?_
  rw [if_neg (show ¬ (0 ≤ w ∧ w ≤ 63) from h), if_pos rfl]
  refine P0.b GX10_setOfWitness 1 (ob := []) (cf' := (36, [some (.int 3), some (.ref (26 + 2 * x)), some (.int w), some (.int 63), none], [.int (-2)], hX g a q u v z b c y t tc TX)) rfl trivial ?_
  exact P0.ri (by decide +kernel) rfl rfl ⟨rfl, rfl⟩
set_option maxHeartbeats 1000000 in
theorem setW_4 {g z : Nat → Int32} {a q u v b c y : Nat → Nat → Int32} {t tc : Nat} {TX : PH} (hO : TX.length ≤ 18) {x : Nat} (hx : x < 6) {w : Int32} (h : (0 ≤ w ∧ w ≤ 1)) : P0 1 0 0 mX10_setOfWitness (0, ent 5 [.int 4, .ref (26 + 2 * x), .int w], [], hX g a q u v z b c y t tc TX) (fun r h' => r = some (.int (q x 4)) ∧ h' = hX g a (up2 q x (upd (q x) 4 w)) u v z b c y t tc TX) := by
  refine P0.b GX10_setOfWitness 3 (ob := []) (cf' := (if (4 : Int32) = 2 then 5 else 10, [some (.int 4), some (.ref (26 + 2 * x)), some (.int w), none, none], [], hX g a q u v z b c y t tc TX)) rfl trivial ?_
  rw [if_neg (show ¬ ((4 : Int32) = 2) from by decide)]
  refine P0.b GX10_setOfWitness 3 (ob := []) (cf' := (if (4 : Int32) = 3 then 15 else 20, [some (.int 4), some (.ref (26 + 2 * x)), some (.int w), none, none], [], hX g a q u v z b c y t tc TX)) rfl trivial ?_
  rw [if_neg (show ¬ ((4 : Int32) = 3) from by decide)]
  refine P0.b GX10_setOfWitness 6 (ob := []) (cf' := (28, [some (.int 4), some (.ref (26 + 2 * x)), some (.int w), some (.int 1), none], [.int 1, .int w], hX g a q u v z b c y t tc TX)) rfl trivial ?_
  refine P0.cr (io := []) (as := [.int w, .int 1]) (rest := []) (hc := []) (hc1 := []) (r1 := some (.int (if 0 ≤ w ∧ w ≤ 1 then 1 else 0))) (st' := [.int (if 0 ≤ w ∧ w ≤ 1 then 1 else 0)]) (h' := hX g a q u v z b c y t tc TX) (d0 := 0) GX10_isWithin kX10_setOfWitness_28 rfl rfl (Nat.le_of_ble_eq_true rfl) (Nat.le_of_ble_eq_true rfl) rfl trivial (within_n w 1) (Nat.le_of_ble_eq_true rfl) rfl (Nat.le_of_ble_eq_true rfl) (hXl hO) rfl ((putL_f rfl).trans rfl) (?_)
  show P0 _ _ _ _ (31, [some (.int 4), some (.ref (26 + 2 * x)), some (.int w), some (.int 1), none], [.int (if 0 ≤ w ∧ w ≤ 1 then 1 else 0)], hX g a q u v z b c y t tc TX) _
  refine P0.b GX10_setOfWitness 1 (ob := []) (cf' := (if (if 0 ≤ w ∧ w ≤ 1 then 1 else 0) = 0 then 34 else 37, [some (.int 4), some (.ref (26 + 2 * x)), some (.int w), some (.int 1), none], [], hX g a q u v z b c y t tc TX)) rfl trivial ?_
  rw [if_pos (show 0 ≤ w ∧ w ≤ 1 from h), if_neg (by decide)]
  refine P0.b GX10_setOfWitness 3 (ob := []) (cf' := (if (4 : Int32) = 2 then 42 else 56, [some (.int 4), some (.ref (26 + 2 * x)), some (.int w), some (.int 1), none], [], hX g a q u v z b c y t tc TX)) rfl trivial ?_
  rw [if_neg (show ¬ ((4 : Int32) = 2) from by decide)]
  refine P0.b GX10_setOfWitness 3 (ob := []) (cf' := (if (4 : Int32) = 3 then 61 else 75, [some (.int 4), some (.ref (26 + 2 * x)), some (.int w), some (.int 1), none], [], hX g a q u v z b c y t tc TX)) rfl trivial ?_
  rw [if_neg (show ¬ ((4 : Int32) = 3) from by decide)]
  refine P0.b GX10_setOfWitness 1 (ob := []) (cf' := (76, [some (.int 4), some (.ref (26 + 2 * x)), some (.int w), some (.int 1), none], [.ref (26 + 2 * x)], hX g a q u v z b c y t tc TX)) rfl trivial ?_
  refine P0.gt GX10_setOfWitness rfl (hX_w (by omega)) rfl ?_
  refine P0.b GX10_setOfWitness 3 (ob := []) (cf' := (83, [some (.int 4), some (.ref (26 + 2 * x)), some (.int w), some (.int 1), some (.int (q x 4))], [.int w, .ref (26 + 2 * x)], hX g a q u v z b c y t tc TX)) rfl trivial ?_
  refine P0.pt GX10_setOfWitness rfl (hX_w (by omega)) rfl (hX_q4 (by omega) w) ?_
  refine P0.b GX10_setOfWitness 1 (ob := []) (cf' := (88, [some (.int 4), some (.ref (26 + 2 * x)), some (.int w), some (.int 1), some (.int (q x 4))], [.int (q x 4)], hX g a (up2 q x (upd (q x) 4 w)) u v z b c y t tc TX)) rfl trivial ?_
  exact P0.ri (by decide +kernel) rfl rfl ⟨rfl, rfl⟩
set_option maxHeartbeats 1000000 in
theorem setW_4n {g z : Nat → Int32} {a q u v b c y : Nat → Nat → Int32} {t tc : Nat} {TX : PH} (hO : TX.length ≤ 18) {x : Nat} (hx : x < 6) {w : Int32} (h : ¬ (0 ≤ w ∧ w ≤ 1)) : P0 1 0 0 mX10_setOfWitness (0, ent 5 [.int 4, .ref (26 + 2 * x), .int w], [], hX g a q u v z b c y t tc TX) (fun r h' => r = some (.int (-2)) ∧ h' = hX g a q u v z b c y t tc TX) := by
  refine P0.b GX10_setOfWitness 3 (ob := []) (cf' := (if (4 : Int32) = 2 then 5 else 10, [some (.int 4), some (.ref (26 + 2 * x)), some (.int w), none, none], [], hX g a q u v z b c y t tc TX)) rfl trivial ?_
  rw [if_neg (show ¬ ((4 : Int32) = 2) from by decide)]
  refine P0.b GX10_setOfWitness 3 (ob := []) (cf' := (if (4 : Int32) = 3 then 15 else 20, [some (.int 4), some (.ref (26 + 2 * x)), some (.int w), none, none], [], hX g a q u v z b c y t tc TX)) rfl trivial ?_
  rw [if_neg (show ¬ ((4 : Int32) = 3) from by decide)]
  refine P0.b GX10_setOfWitness 6 (ob := []) (cf' := (28, [some (.int 4), some (.ref (26 + 2 * x)), some (.int w), some (.int 1), none], [.int 1, .int w], hX g a q u v z b c y t tc TX)) rfl trivial ?_
  refine P0.cr (io := []) (as := [.int w, .int 1]) (rest := []) (hc := []) (hc1 := []) (r1 := some (.int (if 0 ≤ w ∧ w ≤ 1 then 1 else 0))) (st' := [.int (if 0 ≤ w ∧ w ≤ 1 then 1 else 0)]) (h' := hX g a q u v z b c y t tc TX) (d0 := 0) GX10_isWithin kX10_setOfWitness_28 rfl rfl (Nat.le_of_ble_eq_true rfl) (Nat.le_of_ble_eq_true rfl) rfl trivial (within_n w 1) (Nat.le_of_ble_eq_true rfl) rfl (Nat.le_of_ble_eq_true rfl) (hXl hO) rfl ((putL_f rfl).trans rfl) (?_)
  show P0 _ _ _ _ (31, [some (.int 4), some (.ref (26 + 2 * x)), some (.int w), some (.int 1), none], [.int (if 0 ≤ w ∧ w ≤ 1 then 1 else 0)], hX g a q u v z b c y t tc TX) _
  refine P0.b GX10_setOfWitness 1 (ob := []) (cf' := (if (if 0 ≤ w ∧ w ≤ 1 then 1 else 0) = 0 then 34 else 37, [some (.int 4), some (.ref (26 + 2 * x)), some (.int w), some (.int 1), none], [], hX g a q u v z b c y t tc TX)) rfl trivial ?_
  rw [if_neg (show ¬ (0 ≤ w ∧ w ≤ 1) from h), if_pos rfl]
  refine P0.b GX10_setOfWitness 1 (ob := []) (cf' := (36, [some (.int 4), some (.ref (26 + 2 * x)), some (.int w), some (.int 1), none], [.int (-2)], hX g a q u v z b c y t tc TX)) rfl trivial ?_
  exact P0.ri (by decide +kernel) rfl rfl ⟨rfl, rfl⟩
set_option maxHeartbeats 1000000 in
theorem setW_null {g z : Nat → Int32} {a q u v b c y : Nat → Nat → Int32} {t tc : Nat} {TX : PH} {k w : Int32} : P0 1 0 0 mX10_setOfWitness (0, ent 5 [.int k, .null, .int w], [], hX g a q u v z b c y t tc TX) (fun r h' => r = some (.int (-2)) ∧ h' = hX g a q u v z b c y t tc TX) := by
  refine P0.b GX10_setOfWitness 3 (ob := []) (cf' := (if k = 2 then 5 else 10, [some (.int k), some (.null), some (.int w), none, none], [], hX g a q u v z b c y t tc TX)) rfl trivial ?_
  refine P0.if (fun h1 => ?_) (fun h1 => ?_)
  · refine P0.b GX10_setOfWitness 6 (ob := []) (cf' := (36, [some (.int k), some (.null), some (.int w), some (.int 9), none], [.int (-2)], hX g a q u v z b c y t tc TX)) rfl trivial ?_
    exact P0.ri (by decide +kernel) rfl rfl ⟨rfl, rfl⟩
  · refine P0.b GX10_setOfWitness 3 (ob := []) (cf' := (if k = 3 then 15 else 20, [some (.int k), some (.null), some (.int w), none, none], [], hX g a q u v z b c y t tc TX)) rfl trivial ?_
    refine P0.if (fun h2 => ?_) (fun h2 => ?_)
    · refine P0.b GX10_setOfWitness 6 (ob := []) (cf' := (36, [some (.int k), some (.null), some (.int w), some (.int 63), none], [.int (-2)], hX g a q u v z b c y t tc TX)) rfl trivial ?_
      exact P0.ri (by decide +kernel) rfl rfl ⟨rfl, rfl⟩
    · refine P0.b GX10_setOfWitness 5 (ob := []) (cf' := (36, [some (.int k), some (.null), some (.int w), some (.int 1), none], [.int (-2)], hX g a q u v z b c y t tc TX)) rfl trivial ?_
      exact P0.ri (by decide +kernel) rfl rfl ⟨rfl, rfl⟩
set_option maxHeartbeats 1000000 in
theorem k_set0y {g z : Nat → Int32} {a q u v b c y : Nat → Nat → Int32} {t tc : Nat} {TX : PH} (hO : TX.length ≤ 18) (of : Int32) {w : Int32} (h : 0 ≤ w ∧ w ≤ 99) : P0 2 0 0 mX10_set (0, ent 4 [.ref 0, .int 0, .int of, .int w], [], hX g a q u v z b c y t tc TX) (fun r h' => r = some (.int (g 0)) ∧ h' = hX (upd g 0 w) a q u v z b c y t tc TX) := by
  refine P0.b GX10_set 2 (ob := []) (cf' := (swT 0 60 [(0, 36), (1, 42), (2, 49), (3, 49), (4, 49)], [some (.ref 0), some (.int 0), some (.int of), some (.int w)], [], hX g a q u v z b c y t tc TX)) rfl trivial ?_
  rw [show swT (0 : Int32) 60 [(0, 36), (1, 42), (2, 49), (3, 49), (4, 49)] = 36 from by decide +kernel]
  refine P0.b GX10_set 2 (ob := []) (cf' := (38, [some (.ref 0), some (.int 0), some (.int of), some (.int w)], [.int w, .ref 0], hX g a q u v z b c y t tc TX)) rfl trivial ?_
  refine P0.cs (d := 1) (as := [.ref 0, .int w]) (rest := []) GX10_setAge kX10_set_38 rfl ⟨_, _, rfl, rfl, .inl ⟨_, _, _, _, rfl, rfl⟩⟩ (Nat.le_of_ble_eq_true rfl) (Nat.le_of_ble_eq_true rfl) (P0.mono (setAge_y hO h) (Nat.le_of_ble_eq_true rfl) (Nat.zero_le _) (Nat.zero_le _) (fun _ _ q => q)) (hXl hO) (fun _ _ q => (congrArg List.length q.2).trans hX_lq) ?_
  rintro _ _ ⟨rfl, rfl⟩
  show P0 _ _ _ _ (41, [some (.ref 0), some (.int 0), some (.int of), some (.int w)], [.int (g 0)], hX (upd g 0 w) a q u v z b c y t tc TX) _
  exact P0.ri (by decide +kernel) rfl rfl ⟨rfl, rfl⟩
set_option maxHeartbeats 1000000 in
theorem k_set0n {g z : Nat → Int32} {a q u v b c y : Nat → Nat → Int32} {t tc : Nat} {TX : PH} (hO : TX.length ≤ 18) (of : Int32) {w : Int32} (h : ¬ (0 ≤ w ∧ w ≤ 99)) : P0 2 0 0 mX10_set (0, ent 4 [.ref 0, .int 0, .int of, .int w], [], hX g a q u v z b c y t tc TX) (fun r h' => r = some (.int (-2)) ∧ h' = hX g a q u v z b c y t tc TX) := by
  refine P0.b GX10_set 2 (ob := []) (cf' := (swT 0 60 [(0, 36), (1, 42), (2, 49), (3, 49), (4, 49)], [some (.ref 0), some (.int 0), some (.int of), some (.int w)], [], hX g a q u v z b c y t tc TX)) rfl trivial ?_
  rw [show swT (0 : Int32) 60 [(0, 36), (1, 42), (2, 49), (3, 49), (4, 49)] = 36 from by decide +kernel]
  refine P0.b GX10_set 2 (ob := []) (cf' := (38, [some (.ref 0), some (.int 0), some (.int of), some (.int w)], [.int w, .ref 0], hX g a q u v z b c y t tc TX)) rfl trivial ?_
  refine P0.cs (d := 1) (as := [.ref 0, .int w]) (rest := []) GX10_setAge kX10_set_38 rfl ⟨_, _, rfl, rfl, .inl ⟨_, _, _, _, rfl, rfl⟩⟩ (Nat.le_of_ble_eq_true rfl) (Nat.le_of_ble_eq_true rfl) (P0.mono (setAge_n hO h) (Nat.le_of_ble_eq_true rfl) (Nat.zero_le _) (Nat.zero_le _) (fun _ _ q => q)) (hXl hO) (fun _ _ q => (congrArg List.length q.2).trans hX_lq) ?_
  rintro _ _ ⟨rfl, rfl⟩
  show P0 _ _ _ _ (41, [some (.ref 0), some (.int 0), some (.int of), some (.int w)], [.int (-2)], hX g a q u v z b c y t tc TX) _
  exact P0.ri (by decide +kernel) rfl rfl ⟨rfl, rfl⟩
set_option maxHeartbeats 1000000 in
theorem k_set1y {g z : Nat → Int32} {a q u v b c y : Nat → Nat → Int32} {t tc : Nat} {TX : PH} (hO : TX.length ≤ 18) {s : Nat} (hs : s < 6) {w : Int32} (h : 0 ≤ w ∧ w ≤ 3) : P0 2 0 0 mX10_set (0, ent 4 [.ref 0, .int 1, .int (nI s), .int w], [], hX g a q u v z b c y t tc TX) (fun r h' => r = some (.int (a 1 s)) ∧ h' = hX g (up2 a 1 (upd (a 1) s w)) q u v z b c y t tc TX) := by
  refine P0.b GX10_set 2 (ob := []) (cf' := (swT 1 60 [(0, 36), (1, 42), (2, 49), (3, 49), (4, 49)], [some (.ref 0), some (.int 1), some (.int (nI s)), some (.int w)], [], hX g a q u v z b c y t tc TX)) rfl trivial ?_
  rw [show swT (1 : Int32) 60 [(0, 36), (1, 42), (2, 49), (3, 49), (4, 49)] = 42 from by decide +kernel]
  refine P0.b GX10_set 3 (ob := []) (cf' := (45, [some (.ref 0), some (.int 1), some (.int (nI s)), some (.int w)], [.int w, .int (nI s), .ref 0], hX g a q u v z b c y t tc TX)) rfl trivial ?_
  refine P0.cs (d := 1) (as := [.ref 0, .int (nI s), .int w]) (rest := []) GX10_setDoing kX10_set_45 rfl ⟨_, _, rfl, rfl, .inl ⟨_, _, _, _, rfl, rfl⟩⟩ (Nat.le_of_ble_eq_true rfl) (Nat.le_of_ble_eq_true rfl) (P0.mono (setDoing_y hO hs h) (Nat.le_of_ble_eq_true rfl) (Nat.zero_le _) (Nat.zero_le _) (fun _ _ q => q)) (hXl hO) (fun _ _ q => (congrArg List.length q.2).trans hX_lq) ?_
  rintro _ _ ⟨rfl, rfl⟩
  show P0 _ _ _ _ (48, [some (.ref 0), some (.int 1), some (.int (nI s)), some (.int w)], [.int (a 1 s)], hX g (up2 a 1 (upd (a 1) s w)) q u v z b c y t tc TX) _
  exact P0.ri (by decide +kernel) rfl rfl ⟨rfl, rfl⟩
set_option maxHeartbeats 1000000 in
theorem k_set1n {g z : Nat → Int32} {a q u v b c y : Nat → Nat → Int32} {t tc : Nat} {TX : PH} (hO : TX.length ≤ 18) {i w : Int32} (h : ¬ ((0 ≤ i ∧ i ≤ 5) ∧ 0 ≤ w ∧ w ≤ 3)) : P0 2 0 0 mX10_set (0, ent 4 [.ref 0, .int 1, .int i, .int w], [], hX g a q u v z b c y t tc TX) (fun r h' => r = some (.int (-2)) ∧ h' = hX g a q u v z b c y t tc TX) := by
  refine P0.b GX10_set 2 (ob := []) (cf' := (swT 1 60 [(0, 36), (1, 42), (2, 49), (3, 49), (4, 49)], [some (.ref 0), some (.int 1), some (.int i), some (.int w)], [], hX g a q u v z b c y t tc TX)) rfl trivial ?_
  rw [show swT (1 : Int32) 60 [(0, 36), (1, 42), (2, 49), (3, 49), (4, 49)] = 42 from by decide +kernel]
  refine P0.b GX10_set 3 (ob := []) (cf' := (45, [some (.ref 0), some (.int 1), some (.int i), some (.int w)], [.int w, .int i, .ref 0], hX g a q u v z b c y t tc TX)) rfl trivial ?_
  refine P0.cs (d := 1) (as := [.ref 0, .int i, .int w]) (rest := []) GX10_setDoing kX10_set_45 rfl ⟨_, _, rfl, rfl, .inl ⟨_, _, _, _, rfl, rfl⟩⟩ (Nat.le_of_ble_eq_true rfl) (Nat.le_of_ble_eq_true rfl) (P0.mono (setDoing_n hO h) (Nat.le_of_ble_eq_true rfl) (Nat.zero_le _) (Nat.zero_le _) (fun _ _ q => q)) (hXl hO) (fun _ _ q => (congrArg List.length q.2).trans hX_lq) ?_
  rintro _ _ ⟨rfl, rfl⟩
  show P0 _ _ _ _ (48, [some (.ref 0), some (.int 1), some (.int i), some (.int w)], [.int (-2)], hX g a q u v z b c y t tc TX) _
  exact P0.ri (by decide +kernel) rfl rfl ⟨rfl, rfl⟩
set_option maxHeartbeats 1000000 in
theorem k_set2y {g z : Nat → Int32} {a q u v b c y : Nat → Nat → Int32} {t tc : Nat} {TX : PH} (hO : TX.length ≤ 18) {m : Nat} (hm : g 1 = nI m) (hm6 : m ≤ 6) {x : Nat} (hx : x < m) {w : Int32} (h : 0 ≤ w ∧ w ≤ 9) : P0 2 0 0 mX10_set (0, ent 4 [.ref 0, .int 2, .int (nI x), .int w], [], hX g a q u v z b c y t tc TX) (fun r h' => r = some (.int (q x 2)) ∧ h' = hX g a (up2 q x (upd (q x) 2 w)) u v z b c y t tc TX) := by
  refine P0.b GX10_set 2 (ob := []) (cf' := (swT 2 60 [(0, 36), (1, 42), (2, 49), (3, 49), (4, 49)], [some (.ref 0), some (.int 2), some (.int (nI x)), some (.int w)], [], hX g a q u v z b c y t tc TX)) rfl trivial ?_
  rw [show swT (2 : Int32) 60 [(0, 36), (1, 42), (2, 49), (3, 49), (4, 49)] = 49 from by decide +kernel]
  refine P0.b GX10_set 3 (ob := []) (cf' := (52, [some (.ref 0), some (.int 2), some (.int (nI x)), some (.int w)], [.int (nI x), .ref 0, .int 2], hX g a q u v z b c y t tc TX)) rfl trivial ?_
  refine P0.cs (d := 1) (as := [.ref 0, .int (nI x)]) (rest := [.int 2]) GX10_witnessAt kX10_set_52 rfl ⟨_, _, rfl, rfl, .inl ⟨_, _, _, _, rfl, rfl⟩⟩ (Nat.le_of_ble_eq_true rfl) (Nat.le_of_ble_eq_true rfl) (P0.mono (witAt_ok hm hm6 (x := x) (by omega)) (Nat.le_of_ble_eq_true rfl) (Nat.zero_le _) (Nat.zero_le _) (fun _ _ q => q)) (hXl hO) (fun _ _ q => (congrArg List.length q.2).trans hX_lq) ?_
  rintro _ _ ⟨rfl, rfl⟩
  show P0 _ _ _ _ (55, [some (.ref 0), some (.int 2), some (.int (nI x)), some (.int w)], [.ref (26 + 2 * x), .int 2], hX g a q u v z b c y t tc TX) _
  refine P0.b GX10_set 1 (ob := []) (cf' := (56, [some (.ref 0), some (.int 2), some (.int (nI x)), some (.int w)], [.int w, .ref (26 + 2 * x), .int 2], hX g a q u v z b c y t tc TX)) rfl trivial ?_
  refine P0.cs (d := 1) (as := [.int 2, .ref (26 + 2 * x), .int w]) (rest := []) GX10_setOfWitness kX10_set_56 rfl rfl (Nat.le_of_ble_eq_true rfl) (Nat.le_of_ble_eq_true rfl) (P0.mono (setW_2 hO (x := x) (by omega) h) (Nat.le_of_ble_eq_true rfl) (Nat.zero_le _) (Nat.zero_le _) (fun _ _ q => q)) (hXl hO) (fun _ _ q => (congrArg List.length q.2).trans hX_lq) ?_
  rintro _ _ ⟨rfl, rfl⟩
  show P0 _ _ _ _ (59, [some (.ref 0), some (.int 2), some (.int (nI x)), some (.int w)], [.int (q x 2)], hX g a (up2 q x (upd (q x) 2 w)) u v z b c y t tc TX) _
  exact P0.ri (by decide +kernel) rfl rfl ⟨rfl, rfl⟩
set_option maxHeartbeats 1000000 in
theorem k_set2n {g z : Nat → Int32} {a q u v b c y : Nat → Nat → Int32} {t tc : Nat} {TX : PH} (hO : TX.length ≤ 18) {m : Nat} (hm : g 1 = nI m) (hm6 : m ≤ 6) {x : Nat} (hx : x < m) {w : Int32} (h : ¬ (0 ≤ w ∧ w ≤ 9)) : P0 2 0 0 mX10_set (0, ent 4 [.ref 0, .int 2, .int (nI x), .int w], [], hX g a q u v z b c y t tc TX) (fun r h' => r = some (.int (-2)) ∧ h' = hX g a q u v z b c y t tc TX) := by
  refine P0.b GX10_set 2 (ob := []) (cf' := (swT 2 60 [(0, 36), (1, 42), (2, 49), (3, 49), (4, 49)], [some (.ref 0), some (.int 2), some (.int (nI x)), some (.int w)], [], hX g a q u v z b c y t tc TX)) rfl trivial ?_
  rw [show swT (2 : Int32) 60 [(0, 36), (1, 42), (2, 49), (3, 49), (4, 49)] = 49 from by decide +kernel]
  refine P0.b GX10_set 3 (ob := []) (cf' := (52, [some (.ref 0), some (.int 2), some (.int (nI x)), some (.int w)], [.int (nI x), .ref 0, .int 2], hX g a q u v z b c y t tc TX)) rfl trivial ?_
  refine P0.cs (d := 1) (as := [.ref 0, .int (nI x)]) (rest := [.int 2]) GX10_witnessAt kX10_set_52 rfl ⟨_, _, rfl, rfl, .inl ⟨_, _, _, _, rfl, rfl⟩⟩ (Nat.le_of_ble_eq_true rfl) (Nat.le_of_ble_eq_true rfl) (P0.mono (witAt_ok hm hm6 (x := x) (by omega)) (Nat.le_of_ble_eq_true rfl) (Nat.zero_le _) (Nat.zero_le _) (fun _ _ q => q)) (hXl hO) (fun _ _ q => (congrArg List.length q.2).trans hX_lq) ?_
  rintro _ _ ⟨rfl, rfl⟩
  show P0 _ _ _ _ (55, [some (.ref 0), some (.int 2), some (.int (nI x)), some (.int w)], [.ref (26 + 2 * x), .int 2], hX g a q u v z b c y t tc TX) _
  refine P0.b GX10_set 1 (ob := []) (cf' := (56, [some (.ref 0), some (.int 2), some (.int (nI x)), some (.int w)], [.int w, .ref (26 + 2 * x), .int 2], hX g a q u v z b c y t tc TX)) rfl trivial ?_
  refine P0.cs (d := 1) (as := [.int 2, .ref (26 + 2 * x), .int w]) (rest := []) GX10_setOfWitness kX10_set_56 rfl rfl (Nat.le_of_ble_eq_true rfl) (Nat.le_of_ble_eq_true rfl) (P0.mono (setW_2n hO (x := x) (by omega) h) (Nat.le_of_ble_eq_true rfl) (Nat.zero_le _) (Nat.zero_le _) (fun _ _ q => q)) (hXl hO) (fun _ _ q => (congrArg List.length q.2).trans hX_lq) ?_
  rintro _ _ ⟨rfl, rfl⟩
  show P0 _ _ _ _ (59, [some (.ref 0), some (.int 2), some (.int (nI x)), some (.int w)], [.int (-2)], hX g a q u v z b c y t tc TX) _
  exact P0.ri (by decide +kernel) rfl rfl ⟨rfl, rfl⟩
set_option maxHeartbeats 1000000 in
theorem k_set2w {g z : Nat → Int32} {a q u v b c y : Nat → Nat → Int32} {t tc : Nat} {TX : PH} (hO : TX.length ≤ 18) {i : Int32} (h : ¬ (0 ≤ i ∧ i < g 1)) (w : Int32) : P0 2 0 0 mX10_set (0, ent 4 [.ref 0, .int 2, .int i, .int w], [], hX g a q u v z b c y t tc TX) (fun r h' => r = some (.int (-2)) ∧ h' = hX g a q u v z b c y t tc TX) := by
  refine P0.b GX10_set 2 (ob := []) (cf' := (swT 2 60 [(0, 36), (1, 42), (2, 49), (3, 49), (4, 49)], [some (.ref 0), some (.int 2), some (.int i), some (.int w)], [], hX g a q u v z b c y t tc TX)) rfl trivial ?_
  rw [show swT (2 : Int32) 60 [(0, 36), (1, 42), (2, 49), (3, 49), (4, 49)] = 49 from by decide +kernel]
  refine P0.b GX10_set 3 (ob := []) (cf' := (52, [some (.ref 0), some (.int 2), some (.int i), some (.int w)], [.int i, .ref 0, .int 2], hX g a q u v z b c y t tc TX)) rfl trivial ?_
  refine P0.cs (d := 1) (as := [.ref 0, .int i]) (rest := [.int 2]) GX10_witnessAt kX10_set_52 rfl ⟨_, _, rfl, rfl, .inl ⟨_, _, _, _, rfl, rfl⟩⟩ (Nat.le_of_ble_eq_true rfl) (Nat.le_of_ble_eq_true rfl) (P0.mono (witAt_no h) (Nat.le_of_ble_eq_true rfl) (Nat.zero_le _) (Nat.zero_le _) (fun _ _ q => q)) (hXl hO) (fun _ _ q => (congrArg List.length q.2).trans hX_lq) ?_
  rintro _ _ ⟨rfl, rfl⟩
  show P0 _ _ _ _ (55, [some (.ref 0), some (.int 2), some (.int i), some (.int w)], [.null, .int 2], hX g a q u v z b c y t tc TX) _
  refine P0.b GX10_set 1 (ob := []) (cf' := (56, [some (.ref 0), some (.int 2), some (.int i), some (.int w)], [.int w, .null, .int 2], hX g a q u v z b c y t tc TX)) rfl trivial ?_
  refine P0.cs (d := 1) (as := [.int 2, .null, .int w]) (rest := []) GX10_setOfWitness kX10_set_56 rfl rfl (Nat.le_of_ble_eq_true rfl) (Nat.le_of_ble_eq_true rfl) (P0.mono (setW_null) (Nat.le_of_ble_eq_true rfl) (Nat.zero_le _) (Nat.zero_le _) (fun _ _ q => q)) (hXl hO) (fun _ _ q => (congrArg List.length q.2).trans hX_lq) ?_
  rintro _ _ ⟨rfl, rfl⟩
  show P0 _ _ _ _ (59, [some (.ref 0), some (.int 2), some (.int i), some (.int w)], [.int (-2)], hX g a q u v z b c y t tc TX) _
  exact P0.ri (by decide +kernel) rfl rfl ⟨rfl, rfl⟩
set_option maxHeartbeats 1000000 in
theorem k_set3y {g z : Nat → Int32} {a q u v b c y : Nat → Nat → Int32} {t tc : Nat} {TX : PH} (hO : TX.length ≤ 18) {m : Nat} (hm : g 1 = nI m) (hm6 : m ≤ 6) {x : Nat} (hx : x < m) {w : Int32} (h : 0 ≤ w ∧ w ≤ 63) : P0 2 0 0 mX10_set (0, ent 4 [.ref 0, .int 3, .int (nI x), .int w], [], hX g a q u v z b c y t tc TX) (fun r h' => r = some (.int (q x 3)) ∧ h' = hX g a (up2 q x (upd (q x) 3 w)) u v z b c y t tc TX) := by
  refine P0.b GX10_set 2 (ob := []) (cf' := (swT 3 60 [(0, 36), (1, 42), (2, 49), (3, 49), (4, 49)], [some (.ref 0), some (.int 3), some (.int (nI x)), some (.int w)], [], hX g a q u v z b c y t tc TX)) rfl trivial ?_
  rw [show swT (3 : Int32) 60 [(0, 36), (1, 42), (2, 49), (3, 49), (4, 49)] = 49 from by decide +kernel]
  refine P0.b GX10_set 3 (ob := []) (cf' := (52, [some (.ref 0), some (.int 3), some (.int (nI x)), some (.int w)], [.int (nI x), .ref 0, .int 3], hX g a q u v z b c y t tc TX)) rfl trivial ?_
  refine P0.cs (d := 1) (as := [.ref 0, .int (nI x)]) (rest := [.int 3]) GX10_witnessAt kX10_set_52 rfl ⟨_, _, rfl, rfl, .inl ⟨_, _, _, _, rfl, rfl⟩⟩ (Nat.le_of_ble_eq_true rfl) (Nat.le_of_ble_eq_true rfl) (P0.mono (witAt_ok hm hm6 (x := x) (by omega)) (Nat.le_of_ble_eq_true rfl) (Nat.zero_le _) (Nat.zero_le _) (fun _ _ q => q)) (hXl hO) (fun _ _ q => (congrArg List.length q.2).trans hX_lq) ?_
  rintro _ _ ⟨rfl, rfl⟩
  show P0 _ _ _ _ (55, [some (.ref 0), some (.int 3), some (.int (nI x)), some (.int w)], [.ref (26 + 2 * x), .int 3], hX g a q u v z b c y t tc TX) _
  refine P0.b GX10_set 1 (ob := []) (cf' := (56, [some (.ref 0), some (.int 3), some (.int (nI x)), some (.int w)], [.int w, .ref (26 + 2 * x), .int 3], hX g a q u v z b c y t tc TX)) rfl trivial ?_
  refine P0.cs (d := 1) (as := [.int 3, .ref (26 + 2 * x), .int w]) (rest := []) GX10_setOfWitness kX10_set_56 rfl rfl (Nat.le_of_ble_eq_true rfl) (Nat.le_of_ble_eq_true rfl) (P0.mono (setW_3 hO (x := x) (by omega) h) (Nat.le_of_ble_eq_true rfl) (Nat.zero_le _) (Nat.zero_le _) (fun _ _ q => q)) (hXl hO) (fun _ _ q => (congrArg List.length q.2).trans hX_lq) ?_
  rintro _ _ ⟨rfl, rfl⟩
  show P0 _ _ _ _ (59, [some (.ref 0), some (.int 3), some (.int (nI x)), some (.int w)], [.int (q x 3)], hX g a (up2 q x (upd (q x) 3 w)) u v z b c y t tc TX) _
  exact P0.ri (by decide +kernel) rfl rfl ⟨rfl, rfl⟩
set_option maxHeartbeats 1000000 in
theorem k_set3n {g z : Nat → Int32} {a q u v b c y : Nat → Nat → Int32} {t tc : Nat} {TX : PH} (hO : TX.length ≤ 18) {m : Nat} (hm : g 1 = nI m) (hm6 : m ≤ 6) {x : Nat} (hx : x < m) {w : Int32} (h : ¬ (0 ≤ w ∧ w ≤ 63)) : P0 2 0 0 mX10_set (0, ent 4 [.ref 0, .int 3, .int (nI x), .int w], [], hX g a q u v z b c y t tc TX) (fun r h' => r = some (.int (-2)) ∧ h' = hX g a q u v z b c y t tc TX) := by
  refine P0.b GX10_set 2 (ob := []) (cf' := (swT 3 60 [(0, 36), (1, 42), (2, 49), (3, 49), (4, 49)], [some (.ref 0), some (.int 3), some (.int (nI x)), some (.int w)], [], hX g a q u v z b c y t tc TX)) rfl trivial ?_
  rw [show swT (3 : Int32) 60 [(0, 36), (1, 42), (2, 49), (3, 49), (4, 49)] = 49 from by decide +kernel]
  refine P0.b GX10_set 3 (ob := []) (cf' := (52, [some (.ref 0), some (.int 3), some (.int (nI x)), some (.int w)], [.int (nI x), .ref 0, .int 3], hX g a q u v z b c y t tc TX)) rfl trivial ?_
  refine P0.cs (d := 1) (as := [.ref 0, .int (nI x)]) (rest := [.int 3]) GX10_witnessAt kX10_set_52 rfl ⟨_, _, rfl, rfl, .inl ⟨_, _, _, _, rfl, rfl⟩⟩ (Nat.le_of_ble_eq_true rfl) (Nat.le_of_ble_eq_true rfl) (P0.mono (witAt_ok hm hm6 (x := x) (by omega)) (Nat.le_of_ble_eq_true rfl) (Nat.zero_le _) (Nat.zero_le _) (fun _ _ q => q)) (hXl hO) (fun _ _ q => (congrArg List.length q.2).trans hX_lq) ?_
  rintro _ _ ⟨rfl, rfl⟩
  show P0 _ _ _ _ (55, [some (.ref 0), some (.int 3), some (.int (nI x)), some (.int w)], [.ref (26 + 2 * x), .int 3], hX g a q u v z b c y t tc TX) _
  refine P0.b GX10_set 1 (ob := []) (cf' := (56, [some (.ref 0), some (.int 3), some (.int (nI x)), some (.int w)], [.int w, .ref (26 + 2 * x), .int 3], hX g a q u v z b c y t tc TX)) rfl trivial ?_
  refine P0.cs (d := 1) (as := [.int 3, .ref (26 + 2 * x), .int w]) (rest := []) GX10_setOfWitness kX10_set_56 rfl rfl (Nat.le_of_ble_eq_true rfl) (Nat.le_of_ble_eq_true rfl) (P0.mono (setW_3n hO (x := x) (by omega) h) (Nat.le_of_ble_eq_true rfl) (Nat.zero_le _) (Nat.zero_le _) (fun _ _ q => q)) (hXl hO) (fun _ _ q => (congrArg List.length q.2).trans hX_lq) ?_
  rintro _ _ ⟨rfl, rfl⟩
  show P0 _ _ _ _ (59, [some (.ref 0), some (.int 3), some (.int (nI x)), some (.int w)], [.int (-2)], hX g a q u v z b c y t tc TX) _
  exact P0.ri (by decide +kernel) rfl rfl ⟨rfl, rfl⟩
set_option maxHeartbeats 1000000 in
theorem k_set3w {g z : Nat → Int32} {a q u v b c y : Nat → Nat → Int32} {t tc : Nat} {TX : PH} (hO : TX.length ≤ 18) {i : Int32} (h : ¬ (0 ≤ i ∧ i < g 1)) (w : Int32) : P0 2 0 0 mX10_set (0, ent 4 [.ref 0, .int 3, .int i, .int w], [], hX g a q u v z b c y t tc TX) (fun r h' => r = some (.int (-2)) ∧ h' = hX g a q u v z b c y t tc TX) := by
  refine P0.b GX10_set 2 (ob := []) (cf' := (swT 3 60 [(0, 36), (1, 42), (2, 49), (3, 49), (4, 49)], [some (.ref 0), some (.int 3), some (.int i), some (.int w)], [], hX g a q u v z b c y t tc TX)) rfl trivial ?_
  rw [show swT (3 : Int32) 60 [(0, 36), (1, 42), (2, 49), (3, 49), (4, 49)] = 49 from by decide +kernel]
  refine P0.b GX10_set 3 (ob := []) (cf' := (52, [some (.ref 0), some (.int 3), some (.int i), some (.int w)], [.int i, .ref 0, .int 3], hX g a q u v z b c y t tc TX)) rfl trivial ?_
  refine P0.cs (d := 1) (as := [.ref 0, .int i]) (rest := [.int 3]) GX10_witnessAt kX10_set_52 rfl ⟨_, _, rfl, rfl, .inl ⟨_, _, _, _, rfl, rfl⟩⟩ (Nat.le_of_ble_eq_true rfl) (Nat.le_of_ble_eq_true rfl) (P0.mono (witAt_no h) (Nat.le_of_ble_eq_true rfl) (Nat.zero_le _) (Nat.zero_le _) (fun _ _ q => q)) (hXl hO) (fun _ _ q => (congrArg List.length q.2).trans hX_lq) ?_
  rintro _ _ ⟨rfl, rfl⟩
  show P0 _ _ _ _ (55, [some (.ref 0), some (.int 3), some (.int i), some (.int w)], [.null, .int 3], hX g a q u v z b c y t tc TX) _
  refine P0.b GX10_set 1 (ob := []) (cf' := (56, [some (.ref 0), some (.int 3), some (.int i), some (.int w)], [.int w, .null, .int 3], hX g a q u v z b c y t tc TX)) rfl trivial ?_
  refine P0.cs (d := 1) (as := [.int 3, .null, .int w]) (rest := []) GX10_setOfWitness kX10_set_56 rfl rfl (Nat.le_of_ble_eq_true rfl) (Nat.le_of_ble_eq_true rfl) (P0.mono (setW_null) (Nat.le_of_ble_eq_true rfl) (Nat.zero_le _) (Nat.zero_le _) (fun _ _ q => q)) (hXl hO) (fun _ _ q => (congrArg List.length q.2).trans hX_lq) ?_
  rintro _ _ ⟨rfl, rfl⟩
  show P0 _ _ _ _ (59, [some (.ref 0), some (.int 3), some (.int i), some (.int w)], [.int (-2)], hX g a q u v z b c y t tc TX) _
  exact P0.ri (by decide +kernel) rfl rfl ⟨rfl, rfl⟩
set_option maxHeartbeats 1000000 in
theorem k_set4y {g z : Nat → Int32} {a q u v b c y : Nat → Nat → Int32} {t tc : Nat} {TX : PH} (hO : TX.length ≤ 18) {m : Nat} (hm : g 1 = nI m) (hm6 : m ≤ 6) {x : Nat} (hx : x < m) {w : Int32} (h : 0 ≤ w ∧ w ≤ 1) : P0 2 0 0 mX10_set (0, ent 4 [.ref 0, .int 4, .int (nI x), .int w], [], hX g a q u v z b c y t tc TX) (fun r h' => r = some (.int (q x 4)) ∧ h' = hX g a (up2 q x (upd (q x) 4 w)) u v z b c y t tc TX) := by
  refine P0.b GX10_set 2 (ob := []) (cf' := (swT 4 60 [(0, 36), (1, 42), (2, 49), (3, 49), (4, 49)], [some (.ref 0), some (.int 4), some (.int (nI x)), some (.int w)], [], hX g a q u v z b c y t tc TX)) rfl trivial ?_
  rw [show swT (4 : Int32) 60 [(0, 36), (1, 42), (2, 49), (3, 49), (4, 49)] = 49 from by decide +kernel]
  refine P0.b GX10_set 3 (ob := []) (cf' := (52, [some (.ref 0), some (.int 4), some (.int (nI x)), some (.int w)], [.int (nI x), .ref 0, .int 4], hX g a q u v z b c y t tc TX)) rfl trivial ?_
  refine P0.cs (d := 1) (as := [.ref 0, .int (nI x)]) (rest := [.int 4]) GX10_witnessAt kX10_set_52 rfl ⟨_, _, rfl, rfl, .inl ⟨_, _, _, _, rfl, rfl⟩⟩ (Nat.le_of_ble_eq_true rfl) (Nat.le_of_ble_eq_true rfl) (P0.mono (witAt_ok hm hm6 (x := x) (by omega)) (Nat.le_of_ble_eq_true rfl) (Nat.zero_le _) (Nat.zero_le _) (fun _ _ q => q)) (hXl hO) (fun _ _ q => (congrArg List.length q.2).trans hX_lq) ?_
  rintro _ _ ⟨rfl, rfl⟩
  show P0 _ _ _ _ (55, [some (.ref 0), some (.int 4), some (.int (nI x)), some (.int w)], [.ref (26 + 2 * x), .int 4], hX g a q u v z b c y t tc TX) _
  refine P0.b GX10_set 1 (ob := []) (cf' := (56, [some (.ref 0), some (.int 4), some (.int (nI x)), some (.int w)], [.int w, .ref (26 + 2 * x), .int 4], hX g a q u v z b c y t tc TX)) rfl trivial ?_
  refine P0.cs (d := 1) (as := [.int 4, .ref (26 + 2 * x), .int w]) (rest := []) GX10_setOfWitness kX10_set_56 rfl rfl (Nat.le_of_ble_eq_true rfl) (Nat.le_of_ble_eq_true rfl) (P0.mono (setW_4 hO (x := x) (by omega) h) (Nat.le_of_ble_eq_true rfl) (Nat.zero_le _) (Nat.zero_le _) (fun _ _ q => q)) (hXl hO) (fun _ _ q => (congrArg List.length q.2).trans hX_lq) ?_
  rintro _ _ ⟨rfl, rfl⟩
  show P0 _ _ _ _ (59, [some (.ref 0), some (.int 4), some (.int (nI x)), some (.int w)], [.int (q x 4)], hX g a (up2 q x (upd (q x) 4 w)) u v z b c y t tc TX) _
  exact P0.ri (by decide +kernel) rfl rfl ⟨rfl, rfl⟩
set_option maxHeartbeats 1000000 in
theorem k_set4n {g z : Nat → Int32} {a q u v b c y : Nat → Nat → Int32} {t tc : Nat} {TX : PH} (hO : TX.length ≤ 18) {m : Nat} (hm : g 1 = nI m) (hm6 : m ≤ 6) {x : Nat} (hx : x < m) {w : Int32} (h : ¬ (0 ≤ w ∧ w ≤ 1)) : P0 2 0 0 mX10_set (0, ent 4 [.ref 0, .int 4, .int (nI x), .int w], [], hX g a q u v z b c y t tc TX) (fun r h' => r = some (.int (-2)) ∧ h' = hX g a q u v z b c y t tc TX) := by
  refine P0.b GX10_set 2 (ob := []) (cf' := (swT 4 60 [(0, 36), (1, 42), (2, 49), (3, 49), (4, 49)], [some (.ref 0), some (.int 4), some (.int (nI x)), some (.int w)], [], hX g a q u v z b c y t tc TX)) rfl trivial ?_
  rw [show swT (4 : Int32) 60 [(0, 36), (1, 42), (2, 49), (3, 49), (4, 49)] = 49 from by decide +kernel]
  refine P0.b GX10_set 3 (ob := []) (cf' := (52, [some (.ref 0), some (.int 4), some (.int (nI x)), some (.int w)], [.int (nI x), .ref 0, .int 4], hX g a q u v z b c y t tc TX)) rfl trivial ?_
  refine P0.cs (d := 1) (as := [.ref 0, .int (nI x)]) (rest := [.int 4]) GX10_witnessAt kX10_set_52 rfl ⟨_, _, rfl, rfl, .inl ⟨_, _, _, _, rfl, rfl⟩⟩ (Nat.le_of_ble_eq_true rfl) (Nat.le_of_ble_eq_true rfl) (P0.mono (witAt_ok hm hm6 (x := x) (by omega)) (Nat.le_of_ble_eq_true rfl) (Nat.zero_le _) (Nat.zero_le _) (fun _ _ q => q)) (hXl hO) (fun _ _ q => (congrArg List.length q.2).trans hX_lq) ?_
  rintro _ _ ⟨rfl, rfl⟩
  show P0 _ _ _ _ (55, [some (.ref 0), some (.int 4), some (.int (nI x)), some (.int w)], [.ref (26 + 2 * x), .int 4], hX g a q u v z b c y t tc TX) _
  refine P0.b GX10_set 1 (ob := []) (cf' := (56, [some (.ref 0), some (.int 4), some (.int (nI x)), some (.int w)], [.int w, .ref (26 + 2 * x), .int 4], hX g a q u v z b c y t tc TX)) rfl trivial ?_
  refine P0.cs (d := 1) (as := [.int 4, .ref (26 + 2 * x), .int w]) (rest := []) GX10_setOfWitness kX10_set_56 rfl rfl (Nat.le_of_ble_eq_true rfl) (Nat.le_of_ble_eq_true rfl) (P0.mono (setW_4n hO (x := x) (by omega) h) (Nat.le_of_ble_eq_true rfl) (Nat.zero_le _) (Nat.zero_le _) (fun _ _ q => q)) (hXl hO) (fun _ _ q => (congrArg List.length q.2).trans hX_lq) ?_
  rintro _ _ ⟨rfl, rfl⟩
  show P0 _ _ _ _ (59, [some (.ref 0), some (.int 4), some (.int (nI x)), some (.int w)], [.int (-2)], hX g a q u v z b c y t tc TX) _
  exact P0.ri (by decide +kernel) rfl rfl ⟨rfl, rfl⟩
set_option maxHeartbeats 1000000 in
theorem k_set4w {g z : Nat → Int32} {a q u v b c y : Nat → Nat → Int32} {t tc : Nat} {TX : PH} (hO : TX.length ≤ 18) {i : Int32} (h : ¬ (0 ≤ i ∧ i < g 1)) (w : Int32) : P0 2 0 0 mX10_set (0, ent 4 [.ref 0, .int 4, .int i, .int w], [], hX g a q u v z b c y t tc TX) (fun r h' => r = some (.int (-2)) ∧ h' = hX g a q u v z b c y t tc TX) := by
  refine P0.b GX10_set 2 (ob := []) (cf' := (swT 4 60 [(0, 36), (1, 42), (2, 49), (3, 49), (4, 49)], [some (.ref 0), some (.int 4), some (.int i), some (.int w)], [], hX g a q u v z b c y t tc TX)) rfl trivial ?_
  rw [show swT (4 : Int32) 60 [(0, 36), (1, 42), (2, 49), (3, 49), (4, 49)] = 49 from by decide +kernel]
  refine P0.b GX10_set 3 (ob := []) (cf' := (52, [some (.ref 0), some (.int 4), some (.int i), some (.int w)], [.int i, .ref 0, .int 4], hX g a q u v z b c y t tc TX)) rfl trivial ?_
  refine P0.cs (d := 1) (as := [.ref 0, .int i]) (rest := [.int 4]) GX10_witnessAt kX10_set_52 rfl ⟨_, _, rfl, rfl, .inl ⟨_, _, _, _, rfl, rfl⟩⟩ (Nat.le_of_ble_eq_true rfl) (Nat.le_of_ble_eq_true rfl) (P0.mono (witAt_no h) (Nat.le_of_ble_eq_true rfl) (Nat.zero_le _) (Nat.zero_le _) (fun _ _ q => q)) (hXl hO) (fun _ _ q => (congrArg List.length q.2).trans hX_lq) ?_
  rintro _ _ ⟨rfl, rfl⟩
  show P0 _ _ _ _ (55, [some (.ref 0), some (.int 4), some (.int i), some (.int w)], [.null, .int 4], hX g a q u v z b c y t tc TX) _
  refine P0.b GX10_set 1 (ob := []) (cf' := (56, [some (.ref 0), some (.int 4), some (.int i), some (.int w)], [.int w, .null, .int 4], hX g a q u v z b c y t tc TX)) rfl trivial ?_
  refine P0.cs (d := 1) (as := [.int 4, .null, .int w]) (rest := []) GX10_setOfWitness kX10_set_56 rfl rfl (Nat.le_of_ble_eq_true rfl) (Nat.le_of_ble_eq_true rfl) (P0.mono (setW_null) (Nat.le_of_ble_eq_true rfl) (Nat.zero_le _) (Nat.zero_le _) (fun _ _ q => q)) (hXl hO) (fun _ _ q => (congrArg List.length q.2).trans hX_lq) ?_
  rintro _ _ ⟨rfl, rfl⟩
  show P0 _ _ _ _ (59, [some (.ref 0), some (.int 4), some (.int i), some (.int w)], [.int (-2)], hX g a q u v z b c y t tc TX) _
  exact P0.ri (by decide +kernel) rfl rfl ⟨rfl, rfl⟩
set_option maxHeartbeats 1000000 in
theorem k_set_no {g z : Nat → Int32} {a q u v b c y : Nat → Nat → Int32} {t tc : Nat} {TX : PH} (what of w : Int32) (h : ¬ (0 ≤ what ∧ what ≤ 4)) : P0 2 0 0 mX10_set (0, ent 4 [.ref 0, .int what, .int of, .int w], [], hX g a q u v z b c y t tc TX) (fun r h' => r = some (.int (-2)) ∧ h' = hX g a q u v z b c y t tc TX) := by
  refine P0.b GX10_set 2 (ob := []) (cf' := (swT what 60 [(0, 36), (1, 42), (2, 49), (3, 49), (4, 49)], [some (.ref 0), some (.int what), some (.int of), some (.int w)], [], hX g a q u v z b c y t tc TX)) rfl trivial ?_
  refine P0.sw (fun h1 => ?_) (fun h1 => ?_)
  · exact absurd (show 0 ≤ what ∧ what ≤ 4 by rw [h1]; decide) h
  · refine P0.sw (fun h2 => ?_) (fun h2 => ?_)
    · exact absurd (show 0 ≤ what ∧ what ≤ 4 by rw [h2]; decide) h
    · refine P0.sw (fun h3 => ?_) (fun h3 => ?_)
      · exact absurd (show 0 ≤ what ∧ what ≤ 4 by rw [h3]; decide) h
      · refine P0.sw (fun h4 => ?_) (fun h4 => ?_)
        · exact absurd (show 0 ≤ what ∧ what ≤ 4 by rw [h4]; decide) h
        · refine P0.sw (fun h5 => ?_) (fun h5 => ?_)
          · exact absurd (show 0 ≤ what ∧ what ≤ 4 by rw [h5]; decide) h
          · show P0 _ _ _ _ (60, _, _, _) _
            refine P0.b GX10_set 1 (ob := []) (cf' := (62, [some (.ref 0), some (.int what), some (.int of), some (.int w)], [.int (-2)], hX g a q u v z b c y t tc TX)) rfl trivial ?_
            exact P0.ri (by decide +kernel) rfl rfl ⟨rfl, rfl⟩
set_option maxHeartbeats 1000000 in
theorem k_wit_no {g z : Nat → Int32} {a q u v b c y : Nat → Nat → Int32} {t tc : Nat} {TX : PH} (hO : TX.length ≤ 18) {k1 k2 k3 : Int32} (h : ¬ wOK3 k1 k2 k3) : P0 1 0 0 mX10_witness (0, ent 4 [.ref 0, .int k1, .int k2, .int k3], [], hX g a q u v z b c y t tc TX) (fun r h' => r = some (.int (-2)) ∧ h' = hX g a q u v z b c y t tc TX) := by
  refine P0.b GX10_witness 1 (ob := []) (cf' := (1, [some (.ref 0), some (.int k1), some (.int k2), some (.int k3)], [.int k1], hX g a q u v z b c y t tc TX)) rfl trivial ?_
  refine P0.cr (io := []) (as := [.int k1]) (rest := []) (hc := []) (hc1 := []) (r1 := some (.int (if 0 ≤ k1 ∧ k1 ≤ 5 then 1 else 0))) (st' := [.int (if 0 ≤ k1 ∧ k1 ≤ 5 then 1 else 0)]) (h' := hX g a q u v z b c y t tc TX) (d0 := 0) GX1_isKind kX10_witness_1 rfl rfl (Nat.le_of_ble_eq_true rfl) (Nat.le_of_ble_eq_true rfl) rfl trivial (isKind_n k1) (Nat.le_of_ble_eq_true rfl) rfl (Nat.le_of_ble_eq_true rfl) (hXl hO) rfl ((putL_f rfl).trans rfl) (?_)
  show P0 _ _ _ _ (4, [some (.ref 0), some (.int k1), some (.int k2), some (.int k3)], [.int (if 0 ≤ k1 ∧ k1 ≤ 5 then 1 else 0)], hX g a q u v z b c y t tc TX) _
  refine P0.b GX10_witness 1 (ob := []) (cf' := (if (if 0 ≤ k1 ∧ k1 ≤ 5 then 1 else 0) = 0 then 25 else 7, [some (.ref 0), some (.int k1), some (.int k2), some (.int k3)], [], hX g a q u v z b c y t tc TX)) rfl trivial ?_
  refine P0.ifB (fun h1 => ?_) (fun h1 => ?_)
  · refine P0.b GX10_witness 1 (ob := []) (cf' := (27, [some (.ref 0), some (.int k1), some (.int k2), some (.int k3)], [.int (-2)], hX g a q u v z b c y t tc TX)) rfl trivial ?_
    exact P0.ri (by decide +kernel) rfl rfl ⟨rfl, rfl⟩
  · refine P0.b GX10_witness 2 (ob := []) (cf' := (10, [some (.ref 0), some (.int k1), some (.int k2), some (.int k3)], [.int 9, .int k2], hX g a q u v z b c y t tc TX)) rfl trivial ?_
    refine P0.cr (io := []) (as := [.int k2, .int 9]) (rest := []) (hc := []) (hc1 := []) (r1 := some (.int (if 0 ≤ k2 ∧ k2 ≤ 9 then 1 else 0))) (st' := [.int (if 0 ≤ k2 ∧ k2 ≤ 9 then 1 else 0)]) (h' := hX g a q u v z b c y t tc TX) (d0 := 0) GX10_isWithin kX10_witness_10 rfl rfl (Nat.le_of_ble_eq_true rfl) (Nat.le_of_ble_eq_true rfl) rfl trivial (within_n k2 9) (Nat.le_of_ble_eq_true rfl) rfl (Nat.le_of_ble_eq_true rfl) (hXl hO) rfl ((putL_f rfl).trans rfl) (?_)
    show P0 _ _ _ _ (13, [some (.ref 0), some (.int k1), some (.int k2), some (.int k3)], [.int (if 0 ≤ k2 ∧ k2 ≤ 9 then 1 else 0)], hX g a q u v z b c y t tc TX) _
    refine P0.b GX10_witness 1 (ob := []) (cf' := (if (if 0 ≤ k2 ∧ k2 ≤ 9 then 1 else 0) = 0 then 25 else 16, [some (.ref 0), some (.int k1), some (.int k2), some (.int k3)], [], hX g a q u v z b c y t tc TX)) rfl trivial ?_
    refine P0.ifB (fun h2 => ?_) (fun h2 => ?_)
    · refine P0.b GX10_witness 1 (ob := []) (cf' := (27, [some (.ref 0), some (.int k1), some (.int k2), some (.int k3)], [.int (-2)], hX g a q u v z b c y t tc TX)) rfl trivial ?_
      exact P0.ri (by decide +kernel) rfl rfl ⟨rfl, rfl⟩
    · refine P0.b GX10_witness 2 (ob := []) (cf' := (19, [some (.ref 0), some (.int k1), some (.int k2), some (.int k3)], [.int 63, .int k3], hX g a q u v z b c y t tc TX)) rfl trivial ?_
      refine P0.cr (io := []) (as := [.int k3, .int 63]) (rest := []) (hc := []) (hc1 := []) (r1 := some (.int (if 0 ≤ k3 ∧ k3 ≤ 63 then 1 else 0))) (st' := [.int (if 0 ≤ k3 ∧ k3 ≤ 63 then 1 else 0)]) (h' := hX g a q u v z b c y t tc TX) (d0 := 0) GX10_isWithin kX10_witness_19 rfl rfl (Nat.le_of_ble_eq_true rfl) (Nat.le_of_ble_eq_true rfl) rfl trivial (within_n k3 63) (Nat.le_of_ble_eq_true rfl) rfl (Nat.le_of_ble_eq_true rfl) (hXl hO) rfl ((putL_f rfl).trans rfl) (?_)
      show P0 _ _ _ _ (22, [some (.ref 0), some (.int k1), some (.int k2), some (.int k3)], [.int (if 0 ≤ k3 ∧ k3 ≤ 63 then 1 else 0)], hX g a q u v z b c y t tc TX) _
      refine P0.b GX10_witness 1 (ob := []) (cf' := (if (if 0 ≤ k3 ∧ k3 ≤ 63 then 1 else 0) = 0 then 25 else 28, [some (.ref 0), some (.int k1), some (.int k2), some (.int k3)], [], hX g a q u v z b c y t tc TX)) rfl trivial ?_
      rw [if_neg (show ¬ (0 ≤ k3 ∧ k3 ≤ 63) from fun z => h ⟨h1, h2, z⟩), if_pos rfl]
      refine P0.b GX10_witness 1 (ob := []) (cf' := (27, [some (.ref 0), some (.int k1), some (.int k2), some (.int k3)], [.int (-2)], hX g a q u v z b c y t tc TX)) rfl trivial ?_
      exact P0.ri (by decide +kernel) rfl rfl ⟨rfl, rfl⟩
set_option maxHeartbeats 1000000 in
theorem k_wit_full {g z : Nat → Int32} {a q u v b c y : Nat → Nat → Int32} {t tc : Nat} {TX : PH} (hO : TX.length ≤ 18) {k1 k2 k3 : Int32} (h : wOK3 k1 k2 k3) (h6 : g 1 = 6) : P0 1 0 0 mX10_witness (0, ent 4 [.ref 0, .int k1, .int k2, .int k3], [], hX g a q u v z b c y t tc TX) (fun r h' => r = some (.int (-4)) ∧ h' = hX g a q u v z b c y t tc TX) := by
  refine P0.b GX10_witness 1 (ob := []) (cf' := (1, [some (.ref 0), some (.int k1), some (.int k2), some (.int k3)], [.int k1], hX g a q u v z b c y t tc TX)) rfl trivial ?_
  refine P0.cr (io := []) (as := [.int k1]) (rest := []) (hc := []) (hc1 := []) (r1 := some (.int (if 0 ≤ k1 ∧ k1 ≤ 5 then 1 else 0))) (st' := [.int (if 0 ≤ k1 ∧ k1 ≤ 5 then 1 else 0)]) (h' := hX g a q u v z b c y t tc TX) (d0 := 0) GX1_isKind kX10_witness_1 rfl rfl (Nat.le_of_ble_eq_true rfl) (Nat.le_of_ble_eq_true rfl) rfl trivial (isKind_n k1) (Nat.le_of_ble_eq_true rfl) rfl (Nat.le_of_ble_eq_true rfl) (hXl hO) rfl ((putL_f rfl).trans rfl) (?_)
  show P0 _ _ _ _ (4, [some (.ref 0), some (.int k1), some (.int k2), some (.int k3)], [.int (if 0 ≤ k1 ∧ k1 ≤ 5 then 1 else 0)], hX g a q u v z b c y t tc TX) _
  refine P0.b GX10_witness 1 (ob := []) (cf' := (if (if 0 ≤ k1 ∧ k1 ≤ 5 then 1 else 0) = 0 then 25 else 7, [some (.ref 0), some (.int k1), some (.int k2), some (.int k3)], [], hX g a q u v z b c y t tc TX)) rfl trivial ?_
  rw [if_pos (show 0 ≤ k1 ∧ k1 ≤ 5 from h.1), if_neg (by decide)]
  refine P0.b GX10_witness 2 (ob := []) (cf' := (10, [some (.ref 0), some (.int k1), some (.int k2), some (.int k3)], [.int 9, .int k2], hX g a q u v z b c y t tc TX)) rfl trivial ?_
  refine P0.cr (io := []) (as := [.int k2, .int 9]) (rest := []) (hc := []) (hc1 := []) (r1 := some (.int (if 0 ≤ k2 ∧ k2 ≤ 9 then 1 else 0))) (st' := [.int (if 0 ≤ k2 ∧ k2 ≤ 9 then 1 else 0)]) (h' := hX g a q u v z b c y t tc TX) (d0 := 0) GX10_isWithin kX10_witness_10 rfl rfl (Nat.le_of_ble_eq_true rfl) (Nat.le_of_ble_eq_true rfl) rfl trivial (within_n k2 9) (Nat.le_of_ble_eq_true rfl) rfl (Nat.le_of_ble_eq_true rfl) (hXl hO) rfl ((putL_f rfl).trans rfl) (?_)
  show P0 _ _ _ _ (13, [some (.ref 0), some (.int k1), some (.int k2), some (.int k3)], [.int (if 0 ≤ k2 ∧ k2 ≤ 9 then 1 else 0)], hX g a q u v z b c y t tc TX) _
  refine P0.b GX10_witness 1 (ob := []) (cf' := (if (if 0 ≤ k2 ∧ k2 ≤ 9 then 1 else 0) = 0 then 25 else 16, [some (.ref 0), some (.int k1), some (.int k2), some (.int k3)], [], hX g a q u v z b c y t tc TX)) rfl trivial ?_
  rw [if_pos (show 0 ≤ k2 ∧ k2 ≤ 9 from h.2.1), if_neg (by decide)]
  refine P0.b GX10_witness 2 (ob := []) (cf' := (19, [some (.ref 0), some (.int k1), some (.int k2), some (.int k3)], [.int 63, .int k3], hX g a q u v z b c y t tc TX)) rfl trivial ?_
  refine P0.cr (io := []) (as := [.int k3, .int 63]) (rest := []) (hc := []) (hc1 := []) (r1 := some (.int (if 0 ≤ k3 ∧ k3 ≤ 63 then 1 else 0))) (st' := [.int (if 0 ≤ k3 ∧ k3 ≤ 63 then 1 else 0)]) (h' := hX g a q u v z b c y t tc TX) (d0 := 0) GX10_isWithin kX10_witness_19 rfl rfl (Nat.le_of_ble_eq_true rfl) (Nat.le_of_ble_eq_true rfl) rfl trivial (within_n k3 63) (Nat.le_of_ble_eq_true rfl) rfl (Nat.le_of_ble_eq_true rfl) (hXl hO) rfl ((putL_f rfl).trans rfl) (?_)
  show P0 _ _ _ _ (22, [some (.ref 0), some (.int k1), some (.int k2), some (.int k3)], [.int (if 0 ≤ k3 ∧ k3 ≤ 63 then 1 else 0)], hX g a q u v z b c y t tc TX) _
  refine P0.b GX10_witness 1 (ob := []) (cf' := (if (if 0 ≤ k3 ∧ k3 ≤ 63 then 1 else 0) = 0 then 25 else 28, [some (.ref 0), some (.int k1), some (.int k2), some (.int k3)], [], hX g a q u v z b c y t tc TX)) rfl trivial ?_
  rw [if_pos (show 0 ≤ k3 ∧ k3 ≤ 63 from h.2.2), if_neg (by decide)]
  refine P0.b GX10_witness 3 (ob := []) (cf' := (if g 1 < 0 then 59 else 35, [some (.ref 0), some (.int k1), some (.int k2), some (.int k3)], [], hX g a q u v z b c y t tc TX)) rfl trivial ?_
  rw [show g 1 = 6 from h6]
  rw [if_neg (show ¬ ((6 : Int32) < 0) from by decide)]
  refine P0.b GX10_witness 6 (ob := []) (cf' := (if 6 ≤ g 1 then 59 else 47, [some (.ref 0), some (.int k1), some (.int k2), some (.int k3)], [], hX g a q u v z b c y t tc TX)) rfl trivial ?_
  rw [show g 1 = 6 from h6]
  rw [if_pos (show ((6 : Int32) ≤ 6) from by decide)]
  refine P0.b GX10_witness 1 (ob := []) (cf' := (61, [some (.ref 0), some (.int k1), some (.int k2), some (.int k3)], [.int (-4)], hX g a q u v z b c y t tc TX)) rfl trivial ?_
  exact P0.ri (by decide +kernel) rfl rfl ⟨rfl, rfl⟩
set_option maxHeartbeats 1000000 in
theorem k_wit_yes {g z : Nat → Int32} {a q u v b c y : Nat → Nat → Int32} {t tc : Nat} {TX : PH} (hO : TX.length ≤ 18) {k1 k2 k3 : Int32} (h : wOK3 k1 k2 k3) {m : Nat} (hm : g 1 = nI m) (hm6 : m < 6) : P0 1 0 0 mX10_witness (0, ent 4 [.ref 0, .int k1, .int k2, .int k3], [], hX g a q u v z b c y t tc TX) (fun r h' => r = some (.int (nI m)) ∧ h' = hX (upd g 1 (nI (m + 1))) a (up2 q m (qw k1 k2 k3 0)) u v z b c y t tc TX) := by
  refine P0.b GX10_witness 1 (ob := []) (cf' := (1, [some (.ref 0), some (.int k1), some (.int k2), some (.int k3)], [.int k1], hX g a q u v z b c y t tc TX)) rfl trivial ?_
  refine P0.cr (io := []) (as := [.int k1]) (rest := []) (hc := []) (hc1 := []) (r1 := some (.int (if 0 ≤ k1 ∧ k1 ≤ 5 then 1 else 0))) (st' := [.int (if 0 ≤ k1 ∧ k1 ≤ 5 then 1 else 0)]) (h' := hX g a q u v z b c y t tc TX) (d0 := 0) GX1_isKind kX10_witness_1 rfl rfl (Nat.le_of_ble_eq_true rfl) (Nat.le_of_ble_eq_true rfl) rfl trivial (isKind_n k1) (Nat.le_of_ble_eq_true rfl) rfl (Nat.le_of_ble_eq_true rfl) (hXl hO) rfl ((putL_f rfl).trans rfl) (?_)
  show P0 _ _ _ _ (4, [some (.ref 0), some (.int k1), some (.int k2), some (.int k3)], [.int (if 0 ≤ k1 ∧ k1 ≤ 5 then 1 else 0)], hX g a q u v z b c y t tc TX) _
  refine P0.b GX10_witness 1 (ob := []) (cf' := (if (if 0 ≤ k1 ∧ k1 ≤ 5 then 1 else 0) = 0 then 25 else 7, [some (.ref 0), some (.int k1), some (.int k2), some (.int k3)], [], hX g a q u v z b c y t tc TX)) rfl trivial ?_
  rw [if_pos (show 0 ≤ k1 ∧ k1 ≤ 5 from h.1), if_neg (by decide)]
  refine P0.b GX10_witness 2 (ob := []) (cf' := (10, [some (.ref 0), some (.int k1), some (.int k2), some (.int k3)], [.int 9, .int k2], hX g a q u v z b c y t tc TX)) rfl trivial ?_
  refine P0.cr (io := []) (as := [.int k2, .int 9]) (rest := []) (hc := []) (hc1 := []) (r1 := some (.int (if 0 ≤ k2 ∧ k2 ≤ 9 then 1 else 0))) (st' := [.int (if 0 ≤ k2 ∧ k2 ≤ 9 then 1 else 0)]) (h' := hX g a q u v z b c y t tc TX) (d0 := 0) GX10_isWithin kX10_witness_10 rfl rfl (Nat.le_of_ble_eq_true rfl) (Nat.le_of_ble_eq_true rfl) rfl trivial (within_n k2 9) (Nat.le_of_ble_eq_true rfl) rfl (Nat.le_of_ble_eq_true rfl) (hXl hO) rfl ((putL_f rfl).trans rfl) (?_)
  show P0 _ _ _ _ (13, [some (.ref 0), some (.int k1), some (.int k2), some (.int k3)], [.int (if 0 ≤ k2 ∧ k2 ≤ 9 then 1 else 0)], hX g a q u v z b c y t tc TX) _
  refine P0.b GX10_witness 1 (ob := []) (cf' := (if (if 0 ≤ k2 ∧ k2 ≤ 9 then 1 else 0) = 0 then 25 else 16, [some (.ref 0), some (.int k1), some (.int k2), some (.int k3)], [], hX g a q u v z b c y t tc TX)) rfl trivial ?_
  rw [if_pos (show 0 ≤ k2 ∧ k2 ≤ 9 from h.2.1), if_neg (by decide)]
  refine P0.b GX10_witness 2 (ob := []) (cf' := (19, [some (.ref 0), some (.int k1), some (.int k2), some (.int k3)], [.int 63, .int k3], hX g a q u v z b c y t tc TX)) rfl trivial ?_
  refine P0.cr (io := []) (as := [.int k3, .int 63]) (rest := []) (hc := []) (hc1 := []) (r1 := some (.int (if 0 ≤ k3 ∧ k3 ≤ 63 then 1 else 0))) (st' := [.int (if 0 ≤ k3 ∧ k3 ≤ 63 then 1 else 0)]) (h' := hX g a q u v z b c y t tc TX) (d0 := 0) GX10_isWithin kX10_witness_19 rfl rfl (Nat.le_of_ble_eq_true rfl) (Nat.le_of_ble_eq_true rfl) rfl trivial (within_n k3 63) (Nat.le_of_ble_eq_true rfl) rfl (Nat.le_of_ble_eq_true rfl) (hXl hO) rfl ((putL_f rfl).trans rfl) (?_)
  show P0 _ _ _ _ (22, [some (.ref 0), some (.int k1), some (.int k2), some (.int k3)], [.int (if 0 ≤ k3 ∧ k3 ≤ 63 then 1 else 0)], hX g a q u v z b c y t tc TX) _
  refine P0.b GX10_witness 1 (ob := []) (cf' := (if (if 0 ≤ k3 ∧ k3 ≤ 63 then 1 else 0) = 0 then 25 else 28, [some (.ref 0), some (.int k1), some (.int k2), some (.int k3)], [], hX g a q u v z b c y t tc TX)) rfl trivial ?_
  rw [if_pos (show 0 ≤ k3 ∧ k3 ≤ 63 from h.2.2), if_neg (by decide)]
  refine P0.b GX10_witness 3 (ob := []) (cf' := (if g 1 < 0 then 59 else 35, [some (.ref 0), some (.int k1), some (.int k2), some (.int k3)], [], hX g a q u v z b c y t tc TX)) rfl trivial ?_
  rw [show g 1 = nI m from hm]
  rw [if_neg (show ¬ (nI m < 0) from nI_pos (by omega))]
  refine P0.b GX10_witness 6 (ob := []) (cf' := (if 6 ≤ g 1 then 59 else 47, [some (.ref 0), some (.int k1), some (.int k2), some (.int k3)], [], hX g a q u v z b c y t tc TX)) rfl trivial ?_
  rw [show g 1 = nI m from hm]
  rw [if_neg (show ¬ (6 ≤ nI m) from nI_ge (b := 6) (by omega) (by decide))]
  refine P0.b GX10_witness 4 (ob := []) (cf' := (55, [some (.ref 0), some (.int k1), some (.int k2), some (.int k3)], [.int (g 1), .ref 3], hX g a q u v z b c y t tc TX)) rfl trivial ?_
  rw [show g 1 = nI m from hm]
  refine P0.b GX10_witness 1 (ob := [vp_in (nI m) 6]) (cf' := (56, [some (.ref 0), some (.int k1), some (.int k2), some (.int k3)], [va_rf (Wk (nI m).toNatClampNeg)], hX g a q u v z b c y t tc TX)) rfl ⟨(nI_vp (by omega) (by decide)), trivial⟩ ?_
  rw [show (nI m).toNatClampNeg = m from nI_clamp (by omega)]
  rw [show va_rf (Wk m) = .ref (26 + 2 * m) from wk_at (by omega)]
  refine P0.b GX10_witness 5 (ob := []) (cf' := (70, [some (.ref 0), some (.int k1), some (.int k2), some (.int k3)], [.int (g 1), .ref 3], hX g a q u v z b c y t tc TX)) rfl trivial ?_
  rw [show g 1 = nI m from hm]
  refine P0.b GX10_witness 1 (ob := [vp_in (nI m) 6]) (cf' := (71, [some (.ref 0), some (.int k1), some (.int k2), some (.int k3)], [va_rf (Wk (nI m).toNatClampNeg)], hX g a q u v z b c y t tc TX)) rfl ⟨(nI_vp (by omega) (by decide)), trivial⟩ ?_
  rw [show (nI m).toNatClampNeg = m from nI_clamp (by omega)]
  rw [show va_rf (Wk m) = .ref (26 + 2 * m) from wk_at (by omega)]
  refine P0.b GX10_witness 3 (ob := []) (cf' := (74, [some (.ref 0), some (.int k1), some (.int k2), some (.int k3)], [.int k3, .int k2, .int k1, .ref (26 + 2 * m)], hX g a q u v z b c y t tc TX)) rfl trivial ?_
  refine P0.cr (io := [26 + 2 * m, 27 + 2 * m]) (as := [.ref 0, .int k1, .int k2, .int k3]) (rest := []) (hc := [pO 6 [.ref 1, .int (q m 1), .int (q m 2), .int (q m 3), .int (q m 4), .int (c m 5), .int (c m 6), .int (c m 7), .int (c m 8), .int (c m 9)], pI 96 (y m)]) (hc1 := [pO 6 [.ref 1, .int k1, .int k2, .int k3, .int 0, .int (c m 5), .int (c m 6), .int (c m 7), .int (c m 8), .int (c m 9)], pI 96 (y m)]) (r1 := none) (st' := []) (h' := hX g a (up2 q m (qw k1 k2 k3 0)) u v z b c y t tc TX) (d0 := 0) GX9_become kX10_witness_74 rfl ⟨_, _, rfl, rfl, .inl ⟨_, _, _, _, rfl, rfl⟩⟩ (Nat.le_of_ble_eq_true rfl) (Nat.le_of_ble_eq_true rfl) (nd_w (by omega)) ⟨hX_w (by omega), hX_y (by omega), trivial⟩ (wbecome_n k1 k2 k3) (Nat.le_of_ble_eq_true rfl) rfl (Nat.le_of_ble_eq_true rfl) (hXl hO) rfl (by refine (putL_f rfl).trans ?_; show setL (hX g a q u v z b c y t tc TX) [26 + 2 * m, 27 + 2 * m] [pO 6 [.ref (27 + 2 * m), .int k1, .int k2, .int k3, .int 0, .int (c m 5), .int (c m 6), .int (c m 7), .int (c m 8), .int (c m 9)], pI 96 (y m)] = hX g a (up2 q m (qw k1 k2 k3 0)) u v z b c y t tc TX; rw [setL_c, hX_qb (by omega)]; rw [setL_c, set_same (hX_y (by omega))]; rfl) (?_)
  show P0 _ _ _ _ (77, [some (.ref 0), some (.int k1), some (.int k2), some (.int k3)], [], hX g a (up2 q m (qw k1 k2 k3 0)) u v z b c y t tc TX) _
  refine P0.b GX10_witness 6 (ob := []) (cf' := (87, [some (.ref 0), some (.int k1), some (.int k2), some (.int k3)], [], hX (upd g 1 ((g 1) + 1)) a (up2 q m (qw k1 k2 k3 0)) u v z b c y t tc TX)) rfl trivial ?_
  rw [show g 1 = nI m from hm]
  rw [show (nI m) + 1 = nI (m + 1) from nI_add _ _]
  refine P0.b GX10_witness 4 (ob := []) (cf' := (93, [some (.ref 0), some (.int k1), some (.int k2), some (.int k3)], [.int ((nI (m + 1)) - 1)], hX (upd g 1 (nI (m + 1))) a (up2 q m (qw k1 k2 k3 0)) u v z b c y t tc TX)) rfl trivial ?_
  rw [show (nI (m + 1)) - 1 = nI m from nI_pred m]
  exact P0.ri (by decide +kernel) rfl rfl ⟨rfl, rfl⟩
set_option maxHeartbeats 1000000 in
theorem k_told0 {g z : Nat → Int32} {a q u v b c y : Nat → Nat → Int32} {t tc : Nat} {TX : PH} (of : Int32) : P0 5 0 0 mX10_told (0, ent 4 [.ref 0, .int of, .int 0], [], hX g a q u v z b c y t tc TX) (fun r h' => r = some (.int (g 0)) ∧ h' = hX g a q u v z b c y t tc TX) := by
  refine P0.b GX10_told 2 (ob := []) (cf' := (if (0 : Int32) = 0 then 4 else 9, [some (.ref 0), some (.int of), some (.int 0), none], [], hX g a q u v z b c y t tc TX)) rfl trivial ?_
  rw [if_pos (show ((0 : Int32) = 0) from by decide)]
  refine P0.b GX10_told 2 (ob := []) (cf' := (8, [some (.ref 0), some (.int of), some (.int 0), none], [.int (g 0)], hX g a q u v z b c y t tc TX)) rfl trivial ?_
  exact P0.ri (by decide +kernel) rfl rfl ⟨rfl, rfl⟩
set_option maxHeartbeats 1000000 in
theorem k_told1y {g z : Nat → Int32} {a q u v b c y : Nat → Nat → Int32} {t tc : Nat} {TX : PH} (hO : TX.length ≤ 18) {s : Nat} (hs : s < 6) : P0 5 0 0 mX10_told (0, ent 4 [.ref 0, .int (nI s), .int 1], [], hX g a q u v z b c y t tc TX) (fun r h' => r = some (.int (a 1 s)) ∧ h' = hX g a q u v z b c y t tc TX) := by
  refine P0.b GX10_told 2 (ob := []) (cf' := (if (1 : Int32) = 0 then 4 else 9, [some (.ref 0), some (.int (nI s)), some (.int 1), none], [], hX g a q u v z b c y t tc TX)) rfl trivial ?_
  rw [if_neg (show ¬ ((1 : Int32) = 0) from by decide)]
  refine P0.b GX10_told 3 (ob := []) (cf' := (if (1 : Int32) = 1 then 14 else 35, [some (.ref 0), some (.int (nI s)), some (.int 1), none], [], hX g a q u v z b c y t tc TX)) rfl trivial ?_
  rw [if_pos (show ((1 : Int32) = 1) from by decide)]
  refine P0.b GX10_told 1 (ob := []) (cf' := (15, [some (.ref 0), some (.int (nI s)), some (.int 1), none], [.int (nI s)], hX g a q u v z b c y t tc TX)) rfl trivial ?_
  refine P0.cr (io := []) (as := [.int (nI s)]) (rest := []) (hc := []) (hc1 := []) (r1 := some (.int (if 0 ≤ nI s ∧ nI s ≤ 5 then 1 else 0))) (st' := [.int (if 0 ≤ nI s ∧ nI s ≤ 5 then 1 else 0)]) (h' := hX g a q u v z b c y t tc TX) (d0 := 0) GX10_isStep kX10_told_15 rfl rfl (Nat.le_of_ble_eq_true rfl) (Nat.le_of_ble_eq_true rfl) rfl trivial (isStep_n (nI s)) (Nat.le_of_ble_eq_true rfl) rfl (Nat.le_of_ble_eq_true rfl) (hXl hO) rfl ((putL_f rfl).trans rfl) (?_)
  show P0 _ _ _ _ (18, [some (.ref 0), some (.int (nI s)), some (.int 1), none], [.int (if 0 ≤ nI s ∧ nI s ≤ 5 then 1 else 0)], hX g a q u v z b c y t tc TX) _
  refine P0.b GX10_told 1 (ob := []) (cf' := (if (if 0 ≤ nI s ∧ nI s ≤ 5 then 1 else 0) = 0 then 32 else 21, [some (.ref 0), some (.int (nI s)), some (.int 1), none], [], hX g a q u v z b c y t tc TX)) rfl trivial ?_
  rw [if_pos (show 0 ≤ nI s ∧ nI s ≤ 5 from ⟨nI_pos' (by omega), nI_le (b := 5) (by omega) (by decide)⟩), if_neg (by decide)]
  refine P0.b GX10_told 3 (ob := []) (cf' := (26, [some (.ref 0), some (.int (nI s)), some (.int 1), none], [.int (nI s), .ref 1], hX g a q u v z b c y t tc TX)) rfl trivial ?_
  refine P0.cr (io := [1]) (as := [.ref 0, .int (nI s)]) (rest := []) (hc := [pI 6 (a 1)]) (hc1 := [pI 6 (a 1)]) (r1 := some (.int ((a 1) s))) (st' := [.int ((a 1) s)]) (h' := hX g a q u v z b c y t tc TX) (d0 := 0) GX5_at kX10_told_26 rfl rfl (Nat.le_of_ble_eq_true rfl) (Nat.le_of_ble_eq_true rfl) rfl ⟨rfl, trivial⟩ (at_in (n := 6) (by decide) (a 1) (k := s) (by omega)) (Nat.le_of_ble_eq_true rfl) rfl (Nat.le_of_ble_eq_true rfl) (hXl hO) rfl ((putL_f rfl).trans rfl) (?_)
  show P0 _ _ _ _ (29, [some (.ref 0), some (.int (nI s)), some (.int 1), none], [.int ((a 1) s)], hX g a q u v z b c y t tc TX) _
  refine P0.b GX10_told 1 (ob := []) (cf' := (34, [some (.ref 0), some (.int (nI s)), some (.int 1), none], [.int ((a 1) s)], hX g a q u v z b c y t tc TX)) rfl trivial ?_
  exact P0.ri (by decide +kernel) rfl rfl ⟨rfl, rfl⟩
set_option maxHeartbeats 1000000 in
theorem k_told1n {g z : Nat → Int32} {a q u v b c y : Nat → Nat → Int32} {t tc : Nat} {TX : PH} (hO : TX.length ≤ 18) {of : Int32} (h : ¬ (0 ≤ of ∧ of ≤ 5)) : P0 5 0 0 mX10_told (0, ent 4 [.ref 0, .int of, .int 1], [], hX g a q u v z b c y t tc TX) (fun r h' => r = some (.int (-2)) ∧ h' = hX g a q u v z b c y t tc TX) := by
  refine P0.b GX10_told 2 (ob := []) (cf' := (if (1 : Int32) = 0 then 4 else 9, [some (.ref 0), some (.int of), some (.int 1), none], [], hX g a q u v z b c y t tc TX)) rfl trivial ?_
  rw [if_neg (show ¬ ((1 : Int32) = 0) from by decide)]
  refine P0.b GX10_told 3 (ob := []) (cf' := (if (1 : Int32) = 1 then 14 else 35, [some (.ref 0), some (.int of), some (.int 1), none], [], hX g a q u v z b c y t tc TX)) rfl trivial ?_
  rw [if_pos (show ((1 : Int32) = 1) from by decide)]
  refine P0.b GX10_told 1 (ob := []) (cf' := (15, [some (.ref 0), some (.int of), some (.int 1), none], [.int of], hX g a q u v z b c y t tc TX)) rfl trivial ?_
  refine P0.cr (io := []) (as := [.int of]) (rest := []) (hc := []) (hc1 := []) (r1 := some (.int (if 0 ≤ of ∧ of ≤ 5 then 1 else 0))) (st' := [.int (if 0 ≤ of ∧ of ≤ 5 then 1 else 0)]) (h' := hX g a q u v z b c y t tc TX) (d0 := 0) GX10_isStep kX10_told_15 rfl rfl (Nat.le_of_ble_eq_true rfl) (Nat.le_of_ble_eq_true rfl) rfl trivial (isStep_n of) (Nat.le_of_ble_eq_true rfl) rfl (Nat.le_of_ble_eq_true rfl) (hXl hO) rfl ((putL_f rfl).trans rfl) (?_)
  show P0 _ _ _ _ (18, [some (.ref 0), some (.int of), some (.int 1), none], [.int (if 0 ≤ of ∧ of ≤ 5 then 1 else 0)], hX g a q u v z b c y t tc TX) _
  refine P0.b GX10_told 1 (ob := []) (cf' := (if (if 0 ≤ of ∧ of ≤ 5 then 1 else 0) = 0 then 32 else 21, [some (.ref 0), some (.int of), some (.int 1), none], [], hX g a q u v z b c y t tc TX)) rfl trivial ?_
  rw [if_neg (show ¬ (0 ≤ of ∧ of ≤ 5) from h), if_pos rfl]
  refine P0.b GX10_told 1 (ob := []) (cf' := (34, [some (.ref 0), some (.int of), some (.int 1), none], [.int (-2)], hX g a q u v z b c y t tc TX)) rfl trivial ?_
  exact P0.ri (by decide +kernel) rfl rfl ⟨rfl, rfl⟩
set_option maxHeartbeats 1000000 in
theorem k_told_nw {g z : Nat → Int32} {a q u v b c y : Nat → Nat → Int32} {t tc : Nat} {TX : PH} (hO : TX.length ≤ 18) {of what : Int32} (h : ¬ (0 ≤ of ∧ of < g 1)) (h0 : ¬ what = 0) (h1 : ¬ what = 1) : P0 5 0 0 mX10_told (0, ent 4 [.ref 0, .int of, .int what], [], hX g a q u v z b c y t tc TX) (fun r h' => r = some (.int (-2)) ∧ h' = hX g a q u v z b c y t tc TX) := by
  refine P0.b GX10_told 2 (ob := []) (cf' := (if what = 0 then 4 else 9, [some (.ref 0), some (.int of), some (.int what), none], [], hX g a q u v z b c y t tc TX)) rfl trivial ?_
  rw [if_neg (show ¬ (what = 0) from h0)]
  refine P0.b GX10_told 3 (ob := []) (cf' := (if what = 1 then 14 else 35, [some (.ref 0), some (.int of), some (.int what), none], [], hX g a q u v z b c y t tc TX)) rfl trivial ?_
  rw [if_neg (show ¬ (what = 1) from h1)]
  refine P0.b GX10_told 2 (ob := []) (cf' := (37, [some (.ref 0), some (.int of), some (.int what), none], [.int of, .ref 0], hX g a q u v z b c y t tc TX)) rfl trivial ?_
  refine P0.cs (d := 4) (as := [.ref 0, .int of]) (rest := []) GX10_witnessAt kX10_told_37 rfl ⟨_, _, rfl, rfl, .inl ⟨_, _, _, _, rfl, rfl⟩⟩ (Nat.le_of_ble_eq_true rfl) (Nat.le_of_ble_eq_true rfl) (P0.mono (witAt_no h) (Nat.le_of_ble_eq_true rfl) (Nat.zero_le _) (Nat.zero_le _) (fun _ _ q => q)) (hXl hO) (fun _ _ q => (congrArg List.length q.2).trans hX_lq) ?_
  rintro _ _ ⟨rfl, rfl⟩
  show P0 _ _ _ _ (40, [some (.ref 0), some (.int of), some (.int what), none], [.null], hX g a q u v z b c y t tc TX) _
  refine P0.b GX10_told 4 (ob := []) (cf' := (47, [some (.ref 0), some (.int of), some (.int what), some (.null)], [.int (-2)], hX g a q u v z b c y t tc TX)) rfl trivial ?_
  exact P0.ri (by decide +kernel) rfl rfl ⟨rfl, rfl⟩
set_option maxHeartbeats 1000000 in
theorem k_told2 {g z : Nat → Int32} {a q u v b c y : Nat → Nat → Int32} {t tc : Nat} {TX : PH} (hO : TX.length ≤ 18) {m : Nat} (hm : g 1 = nI m) (hm6 : m ≤ 6) {x : Nat} (hx : x < m) : P0 5 0 0 mX10_told (0, ent 4 [.ref 0, .int (nI x), .int 2], [], hX g a q u v z b c y t tc TX) (fun r h' => r = some (.int (q x 2)) ∧ h' = hX g a q u v z b c y t tc TX) := by
  refine P0.b GX10_told 2 (ob := []) (cf' := (if (2 : Int32) = 0 then 4 else 9, [some (.ref 0), some (.int (nI x)), some (.int 2), none], [], hX g a q u v z b c y t tc TX)) rfl trivial ?_
  rw [if_neg (show ¬ ((2 : Int32) = 0) from by decide)]
  refine P0.b GX10_told 3 (ob := []) (cf' := (if (2 : Int32) = 1 then 14 else 35, [some (.ref 0), some (.int (nI x)), some (.int 2), none], [], hX g a q u v z b c y t tc TX)) rfl trivial ?_
  rw [if_neg (show ¬ ((2 : Int32) = 1) from by decide)]
  refine P0.b GX10_told 2 (ob := []) (cf' := (37, [some (.ref 0), some (.int (nI x)), some (.int 2), none], [.int (nI x), .ref 0], hX g a q u v z b c y t tc TX)) rfl trivial ?_
  refine P0.cs (d := 4) (as := [.ref 0, .int (nI x)]) (rest := []) GX10_witnessAt kX10_told_37 rfl ⟨_, _, rfl, rfl, .inl ⟨_, _, _, _, rfl, rfl⟩⟩ (Nat.le_of_ble_eq_true rfl) (Nat.le_of_ble_eq_true rfl) (P0.mono (witAt_ok hm hm6 (x := x) (by omega)) (Nat.le_of_ble_eq_true rfl) (Nat.zero_le _) (Nat.zero_le _) (fun _ _ q => q)) (hXl hO) (fun _ _ q => (congrArg List.length q.2).trans hX_lq) ?_
  rintro _ _ ⟨rfl, rfl⟩
  show P0 _ _ _ _ (40, [some (.ref 0), some (.int (nI x)), some (.int 2), none], [.ref (26 + 2 * x)], hX g a q u v z b c y t tc TX) _
  refine P0.b GX10_told 5 (ob := []) (cf' := (swT 2 110 [(2, 84), (3, 89), (4, 94), (5, 99), (6, 104)], [some (.ref 0), some (.int (nI x)), some (.int 2), some (.ref (26 + 2 * x))], [], hX g a q u v z b c y t tc TX)) rfl trivial ?_
  rw [show swT (2 : Int32) 110 [(2, 84), (3, 89), (4, 94), (5, 99), (6, 104)] = 84 from by decide +kernel]
  refine P0.b GX10_told 1 (ob := []) (cf' := (85, [some (.ref 0), some (.int (nI x)), some (.int 2), some (.ref (26 + 2 * x))], [.ref (26 + 2 * x)], hX g a q u v z b c y t tc TX)) rfl trivial ?_
  refine P0.gt GX10_told rfl (hX_w (by omega)) rfl ?_
  exact P0.ri (by decide +kernel) rfl rfl ⟨rfl, rfl⟩
set_option maxHeartbeats 1000000 in
theorem k_told3 {g z : Nat → Int32} {a q u v b c y : Nat → Nat → Int32} {t tc : Nat} {TX : PH} (hO : TX.length ≤ 18) {m : Nat} (hm : g 1 = nI m) (hm6 : m ≤ 6) {x : Nat} (hx : x < m) : P0 5 0 0 mX10_told (0, ent 4 [.ref 0, .int (nI x), .int 3], [], hX g a q u v z b c y t tc TX) (fun r h' => r = some (.int (q x 3)) ∧ h' = hX g a q u v z b c y t tc TX) := by
  refine P0.b GX10_told 2 (ob := []) (cf' := (if (3 : Int32) = 0 then 4 else 9, [some (.ref 0), some (.int (nI x)), some (.int 3), none], [], hX g a q u v z b c y t tc TX)) rfl trivial ?_
  rw [if_neg (show ¬ ((3 : Int32) = 0) from by decide)]
  refine P0.b GX10_told 3 (ob := []) (cf' := (if (3 : Int32) = 1 then 14 else 35, [some (.ref 0), some (.int (nI x)), some (.int 3), none], [], hX g a q u v z b c y t tc TX)) rfl trivial ?_
  rw [if_neg (show ¬ ((3 : Int32) = 1) from by decide)]
  refine P0.b GX10_told 2 (ob := []) (cf' := (37, [some (.ref 0), some (.int (nI x)), some (.int 3), none], [.int (nI x), .ref 0], hX g a q u v z b c y t tc TX)) rfl trivial ?_
  refine P0.cs (d := 4) (as := [.ref 0, .int (nI x)]) (rest := []) GX10_witnessAt kX10_told_37 rfl ⟨_, _, rfl, rfl, .inl ⟨_, _, _, _, rfl, rfl⟩⟩ (Nat.le_of_ble_eq_true rfl) (Nat.le_of_ble_eq_true rfl) (P0.mono (witAt_ok hm hm6 (x := x) (by omega)) (Nat.le_of_ble_eq_true rfl) (Nat.zero_le _) (Nat.zero_le _) (fun _ _ q => q)) (hXl hO) (fun _ _ q => (congrArg List.length q.2).trans hX_lq) ?_
  rintro _ _ ⟨rfl, rfl⟩
  show P0 _ _ _ _ (40, [some (.ref 0), some (.int (nI x)), some (.int 3), none], [.ref (26 + 2 * x)], hX g a q u v z b c y t tc TX) _
  refine P0.b GX10_told 5 (ob := []) (cf' := (swT 3 110 [(2, 84), (3, 89), (4, 94), (5, 99), (6, 104)], [some (.ref 0), some (.int (nI x)), some (.int 3), some (.ref (26 + 2 * x))], [], hX g a q u v z b c y t tc TX)) rfl trivial ?_
  rw [show swT (3 : Int32) 110 [(2, 84), (3, 89), (4, 94), (5, 99), (6, 104)] = 89 from by decide +kernel]
  refine P0.b GX10_told 1 (ob := []) (cf' := (90, [some (.ref 0), some (.int (nI x)), some (.int 3), some (.ref (26 + 2 * x))], [.ref (26 + 2 * x)], hX g a q u v z b c y t tc TX)) rfl trivial ?_
  refine P0.gt GX10_told rfl (hX_w (by omega)) rfl ?_
  exact P0.ri (by decide +kernel) rfl rfl ⟨rfl, rfl⟩
set_option maxHeartbeats 1000000 in
theorem k_told4 {g z : Nat → Int32} {a q u v b c y : Nat → Nat → Int32} {t tc : Nat} {TX : PH} (hO : TX.length ≤ 18) {m : Nat} (hm : g 1 = nI m) (hm6 : m ≤ 6) {x : Nat} (hx : x < m) : P0 5 0 0 mX10_told (0, ent 4 [.ref 0, .int (nI x), .int 4], [], hX g a q u v z b c y t tc TX) (fun r h' => r = some (.int (q x 4)) ∧ h' = hX g a q u v z b c y t tc TX) := by
  refine P0.b GX10_told 2 (ob := []) (cf' := (if (4 : Int32) = 0 then 4 else 9, [some (.ref 0), some (.int (nI x)), some (.int 4), none], [], hX g a q u v z b c y t tc TX)) rfl trivial ?_
  rw [if_neg (show ¬ ((4 : Int32) = 0) from by decide)]
  refine P0.b GX10_told 3 (ob := []) (cf' := (if (4 : Int32) = 1 then 14 else 35, [some (.ref 0), some (.int (nI x)), some (.int 4), none], [], hX g a q u v z b c y t tc TX)) rfl trivial ?_
  rw [if_neg (show ¬ ((4 : Int32) = 1) from by decide)]
  refine P0.b GX10_told 2 (ob := []) (cf' := (37, [some (.ref 0), some (.int (nI x)), some (.int 4), none], [.int (nI x), .ref 0], hX g a q u v z b c y t tc TX)) rfl trivial ?_
  refine P0.cs (d := 4) (as := [.ref 0, .int (nI x)]) (rest := []) GX10_witnessAt kX10_told_37 rfl ⟨_, _, rfl, rfl, .inl ⟨_, _, _, _, rfl, rfl⟩⟩ (Nat.le_of_ble_eq_true rfl) (Nat.le_of_ble_eq_true rfl) (P0.mono (witAt_ok hm hm6 (x := x) (by omega)) (Nat.le_of_ble_eq_true rfl) (Nat.zero_le _) (Nat.zero_le _) (fun _ _ q => q)) (hXl hO) (fun _ _ q => (congrArg List.length q.2).trans hX_lq) ?_
  rintro _ _ ⟨rfl, rfl⟩
  show P0 _ _ _ _ (40, [some (.ref 0), some (.int (nI x)), some (.int 4), none], [.ref (26 + 2 * x)], hX g a q u v z b c y t tc TX) _
  refine P0.b GX10_told 5 (ob := []) (cf' := (swT 4 110 [(2, 84), (3, 89), (4, 94), (5, 99), (6, 104)], [some (.ref 0), some (.int (nI x)), some (.int 4), some (.ref (26 + 2 * x))], [], hX g a q u v z b c y t tc TX)) rfl trivial ?_
  rw [show swT (4 : Int32) 110 [(2, 84), (3, 89), (4, 94), (5, 99), (6, 104)] = 94 from by decide +kernel]
  refine P0.b GX10_told 1 (ob := []) (cf' := (95, [some (.ref 0), some (.int (nI x)), some (.int 4), some (.ref (26 + 2 * x))], [.ref (26 + 2 * x)], hX g a q u v z b c y t tc TX)) rfl trivial ?_
  refine P0.gt GX10_told rfl (hX_w (by omega)) rfl ?_
  exact P0.ri (by decide +kernel) rfl rfl ⟨rfl, rfl⟩
set_option maxHeartbeats 1000000 in
theorem k_told5 {g z : Nat → Int32} {a q u v b c y : Nat → Nat → Int32} {t tc : Nat} {TX : PH} (hO : TX.length ≤ 18) {m : Nat} (hm : g 1 = nI m) (hm6 : m ≤ 6) {x : Nat} (hx : x < m) : P0 5 0 0 mX10_told (0, ent 4 [.ref 0, .int (nI x), .int 5], [], hX g a q u v z b c y t tc TX) (fun r h' => r = some (.int (q x 1)) ∧ h' = hX g a q u v z b c y t tc TX) := by
  refine P0.b GX10_told 2 (ob := []) (cf' := (if (5 : Int32) = 0 then 4 else 9, [some (.ref 0), some (.int (nI x)), some (.int 5), none], [], hX g a q u v z b c y t tc TX)) rfl trivial ?_
  rw [if_neg (show ¬ ((5 : Int32) = 0) from by decide)]
  refine P0.b GX10_told 3 (ob := []) (cf' := (if (5 : Int32) = 1 then 14 else 35, [some (.ref 0), some (.int (nI x)), some (.int 5), none], [], hX g a q u v z b c y t tc TX)) rfl trivial ?_
  rw [if_neg (show ¬ ((5 : Int32) = 1) from by decide)]
  refine P0.b GX10_told 2 (ob := []) (cf' := (37, [some (.ref 0), some (.int (nI x)), some (.int 5), none], [.int (nI x), .ref 0], hX g a q u v z b c y t tc TX)) rfl trivial ?_
  refine P0.cs (d := 4) (as := [.ref 0, .int (nI x)]) (rest := []) GX10_witnessAt kX10_told_37 rfl ⟨_, _, rfl, rfl, .inl ⟨_, _, _, _, rfl, rfl⟩⟩ (Nat.le_of_ble_eq_true rfl) (Nat.le_of_ble_eq_true rfl) (P0.mono (witAt_ok hm hm6 (x := x) (by omega)) (Nat.le_of_ble_eq_true rfl) (Nat.zero_le _) (Nat.zero_le _) (fun _ _ q => q)) (hXl hO) (fun _ _ q => (congrArg List.length q.2).trans hX_lq) ?_
  rintro _ _ ⟨rfl, rfl⟩
  show P0 _ _ _ _ (40, [some (.ref 0), some (.int (nI x)), some (.int 5), none], [.ref (26 + 2 * x)], hX g a q u v z b c y t tc TX) _
  refine P0.b GX10_told 5 (ob := []) (cf' := (swT 5 110 [(2, 84), (3, 89), (4, 94), (5, 99), (6, 104)], [some (.ref 0), some (.int (nI x)), some (.int 5), some (.ref (26 + 2 * x))], [], hX g a q u v z b c y t tc TX)) rfl trivial ?_
  rw [show swT (5 : Int32) 110 [(2, 84), (3, 89), (4, 94), (5, 99), (6, 104)] = 99 from by decide +kernel]
  refine P0.b GX10_told 1 (ob := []) (cf' := (100, [some (.ref 0), some (.int (nI x)), some (.int 5), some (.ref (26 + 2 * x))], [.ref (26 + 2 * x)], hX g a q u v z b c y t tc TX)) rfl trivial ?_
  refine P0.gt GX10_told rfl (hX_w (by omega)) rfl ?_
  exact P0.ri (by decide +kernel) rfl rfl ⟨rfl, rfl⟩
set_option maxHeartbeats 1000000 in
theorem k_told6 {g z : Nat → Int32} {a q u v b c y : Nat → Nat → Int32} {t tc : Nat} {TX : PH} (hO : TX.length ≤ 18) {m : Nat} (hm : g 1 = nI m) (hm6 : m ≤ 6) (hK : ∀ x, x < m → ∃ k, k < 6 ∧ q x 1 = nI k) (hS : ∀ x, x < m → bcOK (q x 3)) {Vs : Nat → (Nat → Int32) → Int32 → Int32} {cd en : Nat → Int32} {L : Nat} (hR : TxI TX t cd en L) (hT : TXok cd en L (Vs t)) (ht : g 4 = nI t) (htc : t < tc) (htc6 : tc ≤ 6) (hC : CK Vs tc c y) {x : Nat} (hx : x < m) : P0 5 0 0 mX10_told (0, ent 4 [.ref 0, .int (nI x), .int 6], [], hX g a q u v z b c y t tc TX) (fun r h' => ∃ e : EV, CK Vs tc e.2.2.1 e.2.2.2 ∧ r = some (.int (cPrc (Vs t) q (g 0) x)) ∧ h' = hX g a q u v e.1 e.2.1 e.2.2.1 e.2.2.2 t tc TX) := by
  refine P0.b GX10_told 2 (ob := []) (cf' := (if (6 : Int32) = 0 then 4 else 9, [some (.ref 0), some (.int (nI x)), some (.int 6), none], [], hX g a q u v z b c y t tc TX)) rfl trivial ?_
  rw [if_neg (show ¬ ((6 : Int32) = 0) from by decide)]
  refine P0.b GX10_told 3 (ob := []) (cf' := (if (6 : Int32) = 1 then 14 else 35, [some (.ref 0), some (.int (nI x)), some (.int 6), none], [], hX g a q u v z b c y t tc TX)) rfl trivial ?_
  rw [if_neg (show ¬ ((6 : Int32) = 1) from by decide)]
  refine P0.b GX10_told 2 (ob := []) (cf' := (37, [some (.ref 0), some (.int (nI x)), some (.int 6), none], [.int (nI x), .ref 0], hX g a q u v z b c y t tc TX)) rfl trivial ?_
  refine P0.cs (d := 4) (as := [.ref 0, .int (nI x)]) (rest := []) GX10_witnessAt kX10_told_37 rfl ⟨_, _, rfl, rfl, .inl ⟨_, _, _, _, rfl, rfl⟩⟩ (Nat.le_of_ble_eq_true rfl) (Nat.le_of_ble_eq_true rfl) (P0.mono (witAt_ok hm hm6 (x := x) (by omega)) (Nat.le_of_ble_eq_true rfl) (Nat.zero_le _) (Nat.zero_le _) (fun _ _ q => q)) (hXl hO) (fun _ _ q => (congrArg List.length q.2).trans hX_lq) ?_
  rintro _ _ ⟨rfl, rfl⟩
  show P0 _ _ _ _ (40, [some (.ref 0), some (.int (nI x)), some (.int 6), none], [.ref (26 + 2 * x)], hX g a q u v z b c y t tc TX) _
  refine P0.b GX10_told 5 (ob := []) (cf' := (swT 6 110 [(2, 84), (3, 89), (4, 94), (5, 99), (6, 104)], [some (.ref 0), some (.int (nI x)), some (.int 6), some (.ref (26 + 2 * x))], [], hX g a q u v z b c y t tc TX)) rfl trivial ?_
  rw [show swT (6 : Int32) 110 [(2, 84), (3, 89), (4, 94), (5, 99), (6, 104)] = 104 from by decide +kernel]
  refine P0.b GX10_told 2 (ob := []) (cf' := (106, [some (.ref 0), some (.int (nI x)), some (.int 6), some (.ref (26 + 2 * x))], [.ref (26 + 2 * x), .ref 0], hX g a q u v z b c y t tc TX)) rfl trivial ?_
  refine P0.cs (d := 4) (as := [.ref 0, .ref (26 + 2 * x)]) (rest := []) GX10_priceOf kX10_told_106 rfl ⟨_, _, rfl, rfl, .inl ⟨_, _, _, _, rfl, rfl⟩⟩ (Nat.le_of_ble_eq_true rfl) (Nat.le_of_ble_eq_true rfl) (P0.mono (priceOf_n hO hm6 hS hR hT (x := x) (by omega)) (Nat.le_of_ble_eq_true rfl) (Nat.zero_le _) (Nat.zero_le _) (fun _ _ q => q)) (hXl hO) (fun _ _ ⟨_, _, _, e⟩ => (congrArg List.length e).trans hX_lq) ?_
  rintro _ _ ⟨z46, sk46, rfl, rfl⟩
  show P0 _ _ _ _ (109, [some (.ref 0), some (.int (nI x)), some (.int 6), some (.ref (26 + 2 * x))], [.int (cPrc (Vs t) q (g 0) x)], hX g a q u v z46 (up2 b 13 sk46) c y t tc TX) _
  exact P0.ri (by decide +kernel) rfl rfl ⟨(z46, up2 b 13 sk46, c, y), hC, rfl, rfl⟩
set_option maxHeartbeats 1000000 in
theorem k_told10 {g z : Nat → Int32} {a q u v b c y : Nat → Nat → Int32} {t tc : Nat} {TX : PH} (hO : TX.length ≤ 18) {m : Nat} (hm : g 1 = nI m) (hm6 : m ≤ 6) (hK : ∀ x, x < m → ∃ k, k < 6 ∧ q x 1 = nI k) (hS : ∀ x, x < m → bcOK (q x 3)) {Vs : Nat → (Nat → Int32) → Int32 → Int32} {cd en : Nat → Int32} {L : Nat} (hR : TxI TX t cd en L) (hT : TXok cd en L (Vs t)) (ht : g 4 = nI t) (htc : t < tc) (htc6 : tc ≤ 6) (hC : CK Vs tc c y) {x : Nat} (hx : x < m) : P0 5 0 0 mX10_told (0, ent 4 [.ref 0, .int (nI x), .int 10], [], hX g a q u v z b c y t tc TX) (fun r h' => ∃ e : EV, CK Vs tc e.2.2.1 e.2.2.2 ∧ r = some (.int (cSay (Vs t) q (a 1) (g 0) x 0)) ∧ h' = hX g a q u v e.1 e.2.1 e.2.2.1 e.2.2.2 t tc TX) := by
  refine P0.b GX10_told 2 (ob := []) (cf' := (if (10 : Int32) = 0 then 4 else 9, [some (.ref 0), some (.int (nI x)), some (.int 10), none], [], hX g a q u v z b c y t tc TX)) rfl trivial ?_
  rw [if_neg (show ¬ ((10 : Int32) = 0) from by decide)]
  refine P0.b GX10_told 3 (ob := []) (cf' := (if (10 : Int32) = 1 then 14 else 35, [some (.ref 0), some (.int (nI x)), some (.int 10), none], [], hX g a q u v z b c y t tc TX)) rfl trivial ?_
  rw [if_neg (show ¬ ((10 : Int32) = 1) from by decide)]
  refine P0.b GX10_told 2 (ob := []) (cf' := (37, [some (.ref 0), some (.int (nI x)), some (.int 10), none], [.int (nI x), .ref 0], hX g a q u v z b c y t tc TX)) rfl trivial ?_
  refine P0.cs (d := 4) (as := [.ref 0, .int (nI x)]) (rest := []) GX10_witnessAt kX10_told_37 rfl ⟨_, _, rfl, rfl, .inl ⟨_, _, _, _, rfl, rfl⟩⟩ (Nat.le_of_ble_eq_true rfl) (Nat.le_of_ble_eq_true rfl) (P0.mono (witAt_ok hm hm6 (x := x) (by omega)) (Nat.le_of_ble_eq_true rfl) (Nat.zero_le _) (Nat.zero_le _) (fun _ _ q => q)) (hXl hO) (fun _ _ q => (congrArg List.length q.2).trans hX_lq) ?_
  rintro _ _ ⟨rfl, rfl⟩
  show P0 _ _ _ _ (40, [some (.ref 0), some (.int (nI x)), some (.int 10), none], [.ref (26 + 2 * x)], hX g a q u v z b c y t tc TX) _
  refine P0.b GX10_told 5 (ob := []) (cf' := (swT 10 110 [(2, 84), (3, 89), (4, 94), (5, 99), (6, 104)], [some (.ref 0), some (.int (nI x)), some (.int 10), some (.ref (26 + 2 * x))], [], hX g a q u v z b c y t tc TX)) rfl trivial ?_
  rw [show swT (10 : Int32) 110 [(2, 84), (3, 89), (4, 94), (5, 99), (6, 104)] = 110 from by decide +kernel]
  refine P0.b GX10_told 3 (ob := []) (cf' := (if (10 : Int32) < 10 then 134 else 116, [some (.ref 0), some (.int (nI x)), some (.int 10), some (.ref (26 + 2 * x))], [], hX g a q u v z b c y t tc TX)) rfl trivial ?_
  rw [if_neg (show ¬ ((10 : Int32) < 10) from by decide)]
  refine P0.b GX10_told 3 (ob := []) (cf' := (if (16 : Int32) ≤ 10 then 134 else 122, [some (.ref 0), some (.int (nI x)), some (.int 10), some (.ref (26 + 2 * x))], [], hX g a q u v z b c y t tc TX)) rfl trivial ?_
  rw [if_neg (show ¬ ((16 : Int32) ≤ 10) from by decide)]
  refine P0.b GX10_told 5 (ob := []) (cf' := (128, [some (.ref 0), some (.int (nI x)), some (.int 10), some (.ref (26 + 2 * x))], [.int (10 - 10), .ref (26 + 2 * x), .ref 0], hX g a q u v z b c y t tc TX)) rfl trivial ?_
  rw [show (10 - 10 : Int32) = 0 from by decide]
  refine P0.cs (d := 4) (as := [.ref 0, .ref (26 + 2 * x), .int 0]) (rest := []) GX10_saidBy kX10_told_128 rfl ⟨_, _, rfl, rfl, .inl ⟨_, _, _, _, rfl, rfl⟩⟩ (Nat.le_of_ble_eq_true rfl) (Nat.le_of_ble_eq_true rfl) (P0.mono (saidBy_n hO hm6 hK hS hR hT (x := x) (s := 0) (by omega) (by omega)) (Nat.le_of_ble_eq_true rfl) (Nat.zero_le _) (Nat.zero_le _) (fun _ _ q => q)) (hXl hO) (fun _ _ ⟨_, _, _, e⟩ => (congrArg List.length e).trans hX_lq) ?_
  rintro _ _ ⟨z47, sk47, rfl, rfl⟩
  show P0 _ _ _ _ (131, [some (.ref 0), some (.int (nI x)), some (.int 10), some (.ref (26 + 2 * x))], [.int (cSay (Vs t) q (a 1) (g 0) x 0)], hX g a q u v z47 (up2 b 13 sk47) c y t tc TX) _
  refine P0.b GX10_told 1 (ob := []) (cf' := (136, [some (.ref 0), some (.int (nI x)), some (.int 10), some (.ref (26 + 2 * x))], [.int (cSay (Vs t) q (a 1) (g 0) x 0)], hX g a q u v z47 (up2 b 13 sk47) c y t tc TX)) rfl trivial ?_
  exact P0.ri (by decide +kernel) rfl rfl ⟨(z47, up2 b 13 sk47, c, y), hC, rfl, rfl⟩
set_option maxHeartbeats 1000000 in
theorem k_told11 {g z : Nat → Int32} {a q u v b c y : Nat → Nat → Int32} {t tc : Nat} {TX : PH} (hO : TX.length ≤ 18) {m : Nat} (hm : g 1 = nI m) (hm6 : m ≤ 6) (hK : ∀ x, x < m → ∃ k, k < 6 ∧ q x 1 = nI k) (hS : ∀ x, x < m → bcOK (q x 3)) {Vs : Nat → (Nat → Int32) → Int32 → Int32} {cd en : Nat → Int32} {L : Nat} (hR : TxI TX t cd en L) (hT : TXok cd en L (Vs t)) (ht : g 4 = nI t) (htc : t < tc) (htc6 : tc ≤ 6) (hC : CK Vs tc c y) {x : Nat} (hx : x < m) : P0 5 0 0 mX10_told (0, ent 4 [.ref 0, .int (nI x), .int 11], [], hX g a q u v z b c y t tc TX) (fun r h' => ∃ e : EV, CK Vs tc e.2.2.1 e.2.2.2 ∧ r = some (.int (cSay (Vs t) q (a 1) (g 0) x 1)) ∧ h' = hX g a q u v e.1 e.2.1 e.2.2.1 e.2.2.2 t tc TX) := by
  refine P0.b GX10_told 2 (ob := []) (cf' := (if (11 : Int32) = 0 then 4 else 9, [some (.ref 0), some (.int (nI x)), some (.int 11), none], [], hX g a q u v z b c y t tc TX)) rfl trivial ?_
  rw [if_neg (show ¬ ((11 : Int32) = 0) from by decide)]
  refine P0.b GX10_told 3 (ob := []) (cf' := (if (11 : Int32) = 1 then 14 else 35, [some (.ref 0), some (.int (nI x)), some (.int 11), none], [], hX g a q u v z b c y t tc TX)) rfl trivial ?_
  rw [if_neg (show ¬ ((11 : Int32) = 1) from by decide)]
  refine P0.b GX10_told 2 (ob := []) (cf' := (37, [some (.ref 0), some (.int (nI x)), some (.int 11), none], [.int (nI x), .ref 0], hX g a q u v z b c y t tc TX)) rfl trivial ?_
  refine P0.cs (d := 4) (as := [.ref 0, .int (nI x)]) (rest := []) GX10_witnessAt kX10_told_37 rfl ⟨_, _, rfl, rfl, .inl ⟨_, _, _, _, rfl, rfl⟩⟩ (Nat.le_of_ble_eq_true rfl) (Nat.le_of_ble_eq_true rfl) (P0.mono (witAt_ok hm hm6 (x := x) (by omega)) (Nat.le_of_ble_eq_true rfl) (Nat.zero_le _) (Nat.zero_le _) (fun _ _ q => q)) (hXl hO) (fun _ _ q => (congrArg List.length q.2).trans hX_lq) ?_
  rintro _ _ ⟨rfl, rfl⟩
  show P0 _ _ _ _ (40, [some (.ref 0), some (.int (nI x)), some (.int 11), none], [.ref (26 + 2 * x)], hX g a q u v z b c y t tc TX) _
  refine P0.b GX10_told 5 (ob := []) (cf' := (swT 11 110 [(2, 84), (3, 89), (4, 94), (5, 99), (6, 104)], [some (.ref 0), some (.int (nI x)), some (.int 11), some (.ref (26 + 2 * x))], [], hX g a q u v z b c y t tc TX)) rfl trivial ?_
  rw [show swT (11 : Int32) 110 [(2, 84), (3, 89), (4, 94), (5, 99), (6, 104)] = 110 from by decide +kernel]
  refine P0.b GX10_told 3 (ob := []) (cf' := (if (11 : Int32) < 10 then 134 else 116, [some (.ref 0), some (.int (nI x)), some (.int 11), some (.ref (26 + 2 * x))], [], hX g a q u v z b c y t tc TX)) rfl trivial ?_
  rw [if_neg (show ¬ ((11 : Int32) < 10) from by decide)]
  refine P0.b GX10_told 3 (ob := []) (cf' := (if (16 : Int32) ≤ 11 then 134 else 122, [some (.ref 0), some (.int (nI x)), some (.int 11), some (.ref (26 + 2 * x))], [], hX g a q u v z b c y t tc TX)) rfl trivial ?_
  rw [if_neg (show ¬ ((16 : Int32) ≤ 11) from by decide)]
  refine P0.b GX10_told 5 (ob := []) (cf' := (128, [some (.ref 0), some (.int (nI x)), some (.int 11), some (.ref (26 + 2 * x))], [.int (11 - 10), .ref (26 + 2 * x), .ref 0], hX g a q u v z b c y t tc TX)) rfl trivial ?_
  rw [show (11 - 10 : Int32) = 1 from by decide]
  refine P0.cs (d := 4) (as := [.ref 0, .ref (26 + 2 * x), .int 1]) (rest := []) GX10_saidBy kX10_told_128 rfl ⟨_, _, rfl, rfl, .inl ⟨_, _, _, _, rfl, rfl⟩⟩ (Nat.le_of_ble_eq_true rfl) (Nat.le_of_ble_eq_true rfl) (P0.mono (saidBy_n hO hm6 hK hS hR hT (x := x) (s := 1) (by omega) (by omega)) (Nat.le_of_ble_eq_true rfl) (Nat.zero_le _) (Nat.zero_le _) (fun _ _ q => q)) (hXl hO) (fun _ _ ⟨_, _, _, e⟩ => (congrArg List.length e).trans hX_lq) ?_
  rintro _ _ ⟨z48, sk48, rfl, rfl⟩
  show P0 _ _ _ _ (131, [some (.ref 0), some (.int (nI x)), some (.int 11), some (.ref (26 + 2 * x))], [.int (cSay (Vs t) q (a 1) (g 0) x 1)], hX g a q u v z48 (up2 b 13 sk48) c y t tc TX) _
  refine P0.b GX10_told 1 (ob := []) (cf' := (136, [some (.ref 0), some (.int (nI x)), some (.int 11), some (.ref (26 + 2 * x))], [.int (cSay (Vs t) q (a 1) (g 0) x 1)], hX g a q u v z48 (up2 b 13 sk48) c y t tc TX)) rfl trivial ?_
  exact P0.ri (by decide +kernel) rfl rfl ⟨(z48, up2 b 13 sk48, c, y), hC, rfl, rfl⟩
set_option maxHeartbeats 1000000 in
theorem k_told12 {g z : Nat → Int32} {a q u v b c y : Nat → Nat → Int32} {t tc : Nat} {TX : PH} (hO : TX.length ≤ 18) {m : Nat} (hm : g 1 = nI m) (hm6 : m ≤ 6) (hK : ∀ x, x < m → ∃ k, k < 6 ∧ q x 1 = nI k) (hS : ∀ x, x < m → bcOK (q x 3)) {Vs : Nat → (Nat → Int32) → Int32 → Int32} {cd en : Nat → Int32} {L : Nat} (hR : TxI TX t cd en L) (hT : TXok cd en L (Vs t)) (ht : g 4 = nI t) (htc : t < tc) (htc6 : tc ≤ 6) (hC : CK Vs tc c y) {x : Nat} (hx : x < m) : P0 5 0 0 mX10_told (0, ent 4 [.ref 0, .int (nI x), .int 12], [], hX g a q u v z b c y t tc TX) (fun r h' => ∃ e : EV, CK Vs tc e.2.2.1 e.2.2.2 ∧ r = some (.int (cSay (Vs t) q (a 1) (g 0) x 2)) ∧ h' = hX g a q u v e.1 e.2.1 e.2.2.1 e.2.2.2 t tc TX) := by
  refine P0.b GX10_told 2 (ob := []) (cf' := (if (12 : Int32) = 0 then 4 else 9, [some (.ref 0), some (.int (nI x)), some (.int 12), none], [], hX g a q u v z b c y t tc TX)) rfl trivial ?_
  rw [if_neg (show ¬ ((12 : Int32) = 0) from by decide)]
  refine P0.b GX10_told 3 (ob := []) (cf' := (if (12 : Int32) = 1 then 14 else 35, [some (.ref 0), some (.int (nI x)), some (.int 12), none], [], hX g a q u v z b c y t tc TX)) rfl trivial ?_
  rw [if_neg (show ¬ ((12 : Int32) = 1) from by decide)]
  refine P0.b GX10_told 2 (ob := []) (cf' := (37, [some (.ref 0), some (.int (nI x)), some (.int 12), none], [.int (nI x), .ref 0], hX g a q u v z b c y t tc TX)) rfl trivial ?_
  refine P0.cs (d := 4) (as := [.ref 0, .int (nI x)]) (rest := []) GX10_witnessAt kX10_told_37 rfl ⟨_, _, rfl, rfl, .inl ⟨_, _, _, _, rfl, rfl⟩⟩ (Nat.le_of_ble_eq_true rfl) (Nat.le_of_ble_eq_true rfl) (P0.mono (witAt_ok hm hm6 (x := x) (by omega)) (Nat.le_of_ble_eq_true rfl) (Nat.zero_le _) (Nat.zero_le _) (fun _ _ q => q)) (hXl hO) (fun _ _ q => (congrArg List.length q.2).trans hX_lq) ?_
  rintro _ _ ⟨rfl, rfl⟩
  show P0 _ _ _ _ (40, [some (.ref 0), some (.int (nI x)), some (.int 12), none], [.ref (26 + 2 * x)], hX g a q u v z b c y t tc TX) _
  refine P0.b GX10_told 5 (ob := []) (cf' := (swT 12 110 [(2, 84), (3, 89), (4, 94), (5, 99), (6, 104)], [some (.ref 0), some (.int (nI x)), some (.int 12), some (.ref (26 + 2 * x))], [], hX g a q u v z b c y t tc TX)) rfl trivial ?_
  rw [show swT (12 : Int32) 110 [(2, 84), (3, 89), (4, 94), (5, 99), (6, 104)] = 110 from by decide +kernel]
  refine P0.b GX10_told 3 (ob := []) (cf' := (if (12 : Int32) < 10 then 134 else 116, [some (.ref 0), some (.int (nI x)), some (.int 12), some (.ref (26 + 2 * x))], [], hX g a q u v z b c y t tc TX)) rfl trivial ?_
  rw [if_neg (show ¬ ((12 : Int32) < 10) from by decide)]
  refine P0.b GX10_told 3 (ob := []) (cf' := (if (16 : Int32) ≤ 12 then 134 else 122, [some (.ref 0), some (.int (nI x)), some (.int 12), some (.ref (26 + 2 * x))], [], hX g a q u v z b c y t tc TX)) rfl trivial ?_
  rw [if_neg (show ¬ ((16 : Int32) ≤ 12) from by decide)]
  refine P0.b GX10_told 5 (ob := []) (cf' := (128, [some (.ref 0), some (.int (nI x)), some (.int 12), some (.ref (26 + 2 * x))], [.int (12 - 10), .ref (26 + 2 * x), .ref 0], hX g a q u v z b c y t tc TX)) rfl trivial ?_
  rw [show (12 - 10 : Int32) = 2 from by decide]
  refine P0.cs (d := 4) (as := [.ref 0, .ref (26 + 2 * x), .int 2]) (rest := []) GX10_saidBy kX10_told_128 rfl ⟨_, _, rfl, rfl, .inl ⟨_, _, _, _, rfl, rfl⟩⟩ (Nat.le_of_ble_eq_true rfl) (Nat.le_of_ble_eq_true rfl) (P0.mono (saidBy_n hO hm6 hK hS hR hT (x := x) (s := 2) (by omega) (by omega)) (Nat.le_of_ble_eq_true rfl) (Nat.zero_le _) (Nat.zero_le _) (fun _ _ q => q)) (hXl hO) (fun _ _ ⟨_, _, _, e⟩ => (congrArg List.length e).trans hX_lq) ?_
  rintro _ _ ⟨z49, sk49, rfl, rfl⟩
  show P0 _ _ _ _ (131, [some (.ref 0), some (.int (nI x)), some (.int 12), some (.ref (26 + 2 * x))], [.int (cSay (Vs t) q (a 1) (g 0) x 2)], hX g a q u v z49 (up2 b 13 sk49) c y t tc TX) _
  refine P0.b GX10_told 1 (ob := []) (cf' := (136, [some (.ref 0), some (.int (nI x)), some (.int 12), some (.ref (26 + 2 * x))], [.int (cSay (Vs t) q (a 1) (g 0) x 2)], hX g a q u v z49 (up2 b 13 sk49) c y t tc TX)) rfl trivial ?_
  exact P0.ri (by decide +kernel) rfl rfl ⟨(z49, up2 b 13 sk49, c, y), hC, rfl, rfl⟩
set_option maxHeartbeats 1000000 in
theorem k_told13 {g z : Nat → Int32} {a q u v b c y : Nat → Nat → Int32} {t tc : Nat} {TX : PH} (hO : TX.length ≤ 18) {m : Nat} (hm : g 1 = nI m) (hm6 : m ≤ 6) (hK : ∀ x, x < m → ∃ k, k < 6 ∧ q x 1 = nI k) (hS : ∀ x, x < m → bcOK (q x 3)) {Vs : Nat → (Nat → Int32) → Int32 → Int32} {cd en : Nat → Int32} {L : Nat} (hR : TxI TX t cd en L) (hT : TXok cd en L (Vs t)) (ht : g 4 = nI t) (htc : t < tc) (htc6 : tc ≤ 6) (hC : CK Vs tc c y) {x : Nat} (hx : x < m) : P0 5 0 0 mX10_told (0, ent 4 [.ref 0, .int (nI x), .int 13], [], hX g a q u v z b c y t tc TX) (fun r h' => ∃ e : EV, CK Vs tc e.2.2.1 e.2.2.2 ∧ r = some (.int (cSay (Vs t) q (a 1) (g 0) x 3)) ∧ h' = hX g a q u v e.1 e.2.1 e.2.2.1 e.2.2.2 t tc TX) := by
  refine P0.b GX10_told 2 (ob := []) (cf' := (if (13 : Int32) = 0 then 4 else 9, [some (.ref 0), some (.int (nI x)), some (.int 13), none], [], hX g a q u v z b c y t tc TX)) rfl trivial ?_
  rw [if_neg (show ¬ ((13 : Int32) = 0) from by decide)]
  refine P0.b GX10_told 3 (ob := []) (cf' := (if (13 : Int32) = 1 then 14 else 35, [some (.ref 0), some (.int (nI x)), some (.int 13), none], [], hX g a q u v z b c y t tc TX)) rfl trivial ?_
  rw [if_neg (show ¬ ((13 : Int32) = 1) from by decide)]
  refine P0.b GX10_told 2 (ob := []) (cf' := (37, [some (.ref 0), some (.int (nI x)), some (.int 13), none], [.int (nI x), .ref 0], hX g a q u v z b c y t tc TX)) rfl trivial ?_
  refine P0.cs (d := 4) (as := [.ref 0, .int (nI x)]) (rest := []) GX10_witnessAt kX10_told_37 rfl ⟨_, _, rfl, rfl, .inl ⟨_, _, _, _, rfl, rfl⟩⟩ (Nat.le_of_ble_eq_true rfl) (Nat.le_of_ble_eq_true rfl) (P0.mono (witAt_ok hm hm6 (x := x) (by omega)) (Nat.le_of_ble_eq_true rfl) (Nat.zero_le _) (Nat.zero_le _) (fun _ _ q => q)) (hXl hO) (fun _ _ q => (congrArg List.length q.2).trans hX_lq) ?_
  rintro _ _ ⟨rfl, rfl⟩
  show P0 _ _ _ _ (40, [some (.ref 0), some (.int (nI x)), some (.int 13), none], [.ref (26 + 2 * x)], hX g a q u v z b c y t tc TX) _
  refine P0.b GX10_told 5 (ob := []) (cf' := (swT 13 110 [(2, 84), (3, 89), (4, 94), (5, 99), (6, 104)], [some (.ref 0), some (.int (nI x)), some (.int 13), some (.ref (26 + 2 * x))], [], hX g a q u v z b c y t tc TX)) rfl trivial ?_
  rw [show swT (13 : Int32) 110 [(2, 84), (3, 89), (4, 94), (5, 99), (6, 104)] = 110 from by decide +kernel]
  refine P0.b GX10_told 3 (ob := []) (cf' := (if (13 : Int32) < 10 then 134 else 116, [some (.ref 0), some (.int (nI x)), some (.int 13), some (.ref (26 + 2 * x))], [], hX g a q u v z b c y t tc TX)) rfl trivial ?_
  rw [if_neg (show ¬ ((13 : Int32) < 10) from by decide)]
  refine P0.b GX10_told 3 (ob := []) (cf' := (if (16 : Int32) ≤ 13 then 134 else 122, [some (.ref 0), some (.int (nI x)), some (.int 13), some (.ref (26 + 2 * x))], [], hX g a q u v z b c y t tc TX)) rfl trivial ?_
  rw [if_neg (show ¬ ((16 : Int32) ≤ 13) from by decide)]
  refine P0.b GX10_told 5 (ob := []) (cf' := (128, [some (.ref 0), some (.int (nI x)), some (.int 13), some (.ref (26 + 2 * x))], [.int (13 - 10), .ref (26 + 2 * x), .ref 0], hX g a q u v z b c y t tc TX)) rfl trivial ?_
  rw [show (13 - 10 : Int32) = 3 from by decide]
  refine P0.cs (d := 4) (as := [.ref 0, .ref (26 + 2 * x), .int 3]) (rest := []) GX10_saidBy kX10_told_128 rfl ⟨_, _, rfl, rfl, .inl ⟨_, _, _, _, rfl, rfl⟩⟩ (Nat.le_of_ble_eq_true rfl) (Nat.le_of_ble_eq_true rfl) (P0.mono (saidBy_n hO hm6 hK hS hR hT (x := x) (s := 3) (by omega) (by omega)) (Nat.le_of_ble_eq_true rfl) (Nat.zero_le _) (Nat.zero_le _) (fun _ _ q => q)) (hXl hO) (fun _ _ ⟨_, _, _, e⟩ => (congrArg List.length e).trans hX_lq) ?_
  rintro _ _ ⟨z50, sk50, rfl, rfl⟩
  show P0 _ _ _ _ (131, [some (.ref 0), some (.int (nI x)), some (.int 13), some (.ref (26 + 2 * x))], [.int (cSay (Vs t) q (a 1) (g 0) x 3)], hX g a q u v z50 (up2 b 13 sk50) c y t tc TX) _
  refine P0.b GX10_told 1 (ob := []) (cf' := (136, [some (.ref 0), some (.int (nI x)), some (.int 13), some (.ref (26 + 2 * x))], [.int (cSay (Vs t) q (a 1) (g 0) x 3)], hX g a q u v z50 (up2 b 13 sk50) c y t tc TX)) rfl trivial ?_
  exact P0.ri (by decide +kernel) rfl rfl ⟨(z50, up2 b 13 sk50, c, y), hC, rfl, rfl⟩
set_option maxHeartbeats 1000000 in
theorem k_told14 {g z : Nat → Int32} {a q u v b c y : Nat → Nat → Int32} {t tc : Nat} {TX : PH} (hO : TX.length ≤ 18) {m : Nat} (hm : g 1 = nI m) (hm6 : m ≤ 6) (hK : ∀ x, x < m → ∃ k, k < 6 ∧ q x 1 = nI k) (hS : ∀ x, x < m → bcOK (q x 3)) {Vs : Nat → (Nat → Int32) → Int32 → Int32} {cd en : Nat → Int32} {L : Nat} (hR : TxI TX t cd en L) (hT : TXok cd en L (Vs t)) (ht : g 4 = nI t) (htc : t < tc) (htc6 : tc ≤ 6) (hC : CK Vs tc c y) {x : Nat} (hx : x < m) : P0 5 0 0 mX10_told (0, ent 4 [.ref 0, .int (nI x), .int 14], [], hX g a q u v z b c y t tc TX) (fun r h' => ∃ e : EV, CK Vs tc e.2.2.1 e.2.2.2 ∧ r = some (.int (cSay (Vs t) q (a 1) (g 0) x 4)) ∧ h' = hX g a q u v e.1 e.2.1 e.2.2.1 e.2.2.2 t tc TX) := by
  refine P0.b GX10_told 2 (ob := []) (cf' := (if (14 : Int32) = 0 then 4 else 9, [some (.ref 0), some (.int (nI x)), some (.int 14), none], [], hX g a q u v z b c y t tc TX)) rfl trivial ?_
  rw [if_neg (show ¬ ((14 : Int32) = 0) from by decide)]
  refine P0.b GX10_told 3 (ob := []) (cf' := (if (14 : Int32) = 1 then 14 else 35, [some (.ref 0), some (.int (nI x)), some (.int 14), none], [], hX g a q u v z b c y t tc TX)) rfl trivial ?_
  rw [if_neg (show ¬ ((14 : Int32) = 1) from by decide)]
  refine P0.b GX10_told 2 (ob := []) (cf' := (37, [some (.ref 0), some (.int (nI x)), some (.int 14), none], [.int (nI x), .ref 0], hX g a q u v z b c y t tc TX)) rfl trivial ?_
  refine P0.cs (d := 4) (as := [.ref 0, .int (nI x)]) (rest := []) GX10_witnessAt kX10_told_37 rfl ⟨_, _, rfl, rfl, .inl ⟨_, _, _, _, rfl, rfl⟩⟩ (Nat.le_of_ble_eq_true rfl) (Nat.le_of_ble_eq_true rfl) (P0.mono (witAt_ok hm hm6 (x := x) (by omega)) (Nat.le_of_ble_eq_true rfl) (Nat.zero_le _) (Nat.zero_le _) (fun _ _ q => q)) (hXl hO) (fun _ _ q => (congrArg List.length q.2).trans hX_lq) ?_
  rintro _ _ ⟨rfl, rfl⟩
  show P0 _ _ _ _ (40, [some (.ref 0), some (.int (nI x)), some (.int 14), none], [.ref (26 + 2 * x)], hX g a q u v z b c y t tc TX) _
  refine P0.b GX10_told 5 (ob := []) (cf' := (swT 14 110 [(2, 84), (3, 89), (4, 94), (5, 99), (6, 104)], [some (.ref 0), some (.int (nI x)), some (.int 14), some (.ref (26 + 2 * x))], [], hX g a q u v z b c y t tc TX)) rfl trivial ?_
  rw [show swT (14 : Int32) 110 [(2, 84), (3, 89), (4, 94), (5, 99), (6, 104)] = 110 from by decide +kernel]
  refine P0.b GX10_told 3 (ob := []) (cf' := (if (14 : Int32) < 10 then 134 else 116, [some (.ref 0), some (.int (nI x)), some (.int 14), some (.ref (26 + 2 * x))], [], hX g a q u v z b c y t tc TX)) rfl trivial ?_
  rw [if_neg (show ¬ ((14 : Int32) < 10) from by decide)]
  refine P0.b GX10_told 3 (ob := []) (cf' := (if (16 : Int32) ≤ 14 then 134 else 122, [some (.ref 0), some (.int (nI x)), some (.int 14), some (.ref (26 + 2 * x))], [], hX g a q u v z b c y t tc TX)) rfl trivial ?_
  rw [if_neg (show ¬ ((16 : Int32) ≤ 14) from by decide)]
  refine P0.b GX10_told 5 (ob := []) (cf' := (128, [some (.ref 0), some (.int (nI x)), some (.int 14), some (.ref (26 + 2 * x))], [.int (14 - 10), .ref (26 + 2 * x), .ref 0], hX g a q u v z b c y t tc TX)) rfl trivial ?_
  rw [show (14 - 10 : Int32) = 4 from by decide]
  refine P0.cs (d := 4) (as := [.ref 0, .ref (26 + 2 * x), .int 4]) (rest := []) GX10_saidBy kX10_told_128 rfl ⟨_, _, rfl, rfl, .inl ⟨_, _, _, _, rfl, rfl⟩⟩ (Nat.le_of_ble_eq_true rfl) (Nat.le_of_ble_eq_true rfl) (P0.mono (saidBy_n hO hm6 hK hS hR hT (x := x) (s := 4) (by omega) (by omega)) (Nat.le_of_ble_eq_true rfl) (Nat.zero_le _) (Nat.zero_le _) (fun _ _ q => q)) (hXl hO) (fun _ _ ⟨_, _, _, e⟩ => (congrArg List.length e).trans hX_lq) ?_
  rintro _ _ ⟨z51, sk51, rfl, rfl⟩
  show P0 _ _ _ _ (131, [some (.ref 0), some (.int (nI x)), some (.int 14), some (.ref (26 + 2 * x))], [.int (cSay (Vs t) q (a 1) (g 0) x 4)], hX g a q u v z51 (up2 b 13 sk51) c y t tc TX) _
  refine P0.b GX10_told 1 (ob := []) (cf' := (136, [some (.ref 0), some (.int (nI x)), some (.int 14), some (.ref (26 + 2 * x))], [.int (cSay (Vs t) q (a 1) (g 0) x 4)], hX g a q u v z51 (up2 b 13 sk51) c y t tc TX)) rfl trivial ?_
  exact P0.ri (by decide +kernel) rfl rfl ⟨(z51, up2 b 13 sk51, c, y), hC, rfl, rfl⟩
set_option maxHeartbeats 1000000 in
theorem k_told15 {g z : Nat → Int32} {a q u v b c y : Nat → Nat → Int32} {t tc : Nat} {TX : PH} (hO : TX.length ≤ 18) {m : Nat} (hm : g 1 = nI m) (hm6 : m ≤ 6) (hK : ∀ x, x < m → ∃ k, k < 6 ∧ q x 1 = nI k) (hS : ∀ x, x < m → bcOK (q x 3)) {Vs : Nat → (Nat → Int32) → Int32 → Int32} {cd en : Nat → Int32} {L : Nat} (hR : TxI TX t cd en L) (hT : TXok cd en L (Vs t)) (ht : g 4 = nI t) (htc : t < tc) (htc6 : tc ≤ 6) (hC : CK Vs tc c y) {x : Nat} (hx : x < m) : P0 5 0 0 mX10_told (0, ent 4 [.ref 0, .int (nI x), .int 15], [], hX g a q u v z b c y t tc TX) (fun r h' => ∃ e : EV, CK Vs tc e.2.2.1 e.2.2.2 ∧ r = some (.int (cSay (Vs t) q (a 1) (g 0) x 5)) ∧ h' = hX g a q u v e.1 e.2.1 e.2.2.1 e.2.2.2 t tc TX) := by
  refine P0.b GX10_told 2 (ob := []) (cf' := (if (15 : Int32) = 0 then 4 else 9, [some (.ref 0), some (.int (nI x)), some (.int 15), none], [], hX g a q u v z b c y t tc TX)) rfl trivial ?_
  rw [if_neg (show ¬ ((15 : Int32) = 0) from by decide)]
  refine P0.b GX10_told 3 (ob := []) (cf' := (if (15 : Int32) = 1 then 14 else 35, [some (.ref 0), some (.int (nI x)), some (.int 15), none], [], hX g a q u v z b c y t tc TX)) rfl trivial ?_
  rw [if_neg (show ¬ ((15 : Int32) = 1) from by decide)]
  refine P0.b GX10_told 2 (ob := []) (cf' := (37, [some (.ref 0), some (.int (nI x)), some (.int 15), none], [.int (nI x), .ref 0], hX g a q u v z b c y t tc TX)) rfl trivial ?_
  refine P0.cs (d := 4) (as := [.ref 0, .int (nI x)]) (rest := []) GX10_witnessAt kX10_told_37 rfl ⟨_, _, rfl, rfl, .inl ⟨_, _, _, _, rfl, rfl⟩⟩ (Nat.le_of_ble_eq_true rfl) (Nat.le_of_ble_eq_true rfl) (P0.mono (witAt_ok hm hm6 (x := x) (by omega)) (Nat.le_of_ble_eq_true rfl) (Nat.zero_le _) (Nat.zero_le _) (fun _ _ q => q)) (hXl hO) (fun _ _ q => (congrArg List.length q.2).trans hX_lq) ?_
  rintro _ _ ⟨rfl, rfl⟩
  show P0 _ _ _ _ (40, [some (.ref 0), some (.int (nI x)), some (.int 15), none], [.ref (26 + 2 * x)], hX g a q u v z b c y t tc TX) _
  refine P0.b GX10_told 5 (ob := []) (cf' := (swT 15 110 [(2, 84), (3, 89), (4, 94), (5, 99), (6, 104)], [some (.ref 0), some (.int (nI x)), some (.int 15), some (.ref (26 + 2 * x))], [], hX g a q u v z b c y t tc TX)) rfl trivial ?_
  rw [show swT (15 : Int32) 110 [(2, 84), (3, 89), (4, 94), (5, 99), (6, 104)] = 110 from by decide +kernel]
  refine P0.b GX10_told 3 (ob := []) (cf' := (if (15 : Int32) < 10 then 134 else 116, [some (.ref 0), some (.int (nI x)), some (.int 15), some (.ref (26 + 2 * x))], [], hX g a q u v z b c y t tc TX)) rfl trivial ?_
  rw [if_neg (show ¬ ((15 : Int32) < 10) from by decide)]
  refine P0.b GX10_told 3 (ob := []) (cf' := (if (16 : Int32) ≤ 15 then 134 else 122, [some (.ref 0), some (.int (nI x)), some (.int 15), some (.ref (26 + 2 * x))], [], hX g a q u v z b c y t tc TX)) rfl trivial ?_
  rw [if_neg (show ¬ ((16 : Int32) ≤ 15) from by decide)]
  refine P0.b GX10_told 5 (ob := []) (cf' := (128, [some (.ref 0), some (.int (nI x)), some (.int 15), some (.ref (26 + 2 * x))], [.int (15 - 10), .ref (26 + 2 * x), .ref 0], hX g a q u v z b c y t tc TX)) rfl trivial ?_
  rw [show (15 - 10 : Int32) = 5 from by decide]
  refine P0.cs (d := 4) (as := [.ref 0, .ref (26 + 2 * x), .int 5]) (rest := []) GX10_saidBy kX10_told_128 rfl ⟨_, _, rfl, rfl, .inl ⟨_, _, _, _, rfl, rfl⟩⟩ (Nat.le_of_ble_eq_true rfl) (Nat.le_of_ble_eq_true rfl) (P0.mono (saidBy_n hO hm6 hK hS hR hT (x := x) (s := 5) (by omega) (by omega)) (Nat.le_of_ble_eq_true rfl) (Nat.zero_le _) (Nat.zero_le _) (fun _ _ q => q)) (hXl hO) (fun _ _ ⟨_, _, _, e⟩ => (congrArg List.length e).trans hX_lq) ?_
  rintro _ _ ⟨z52, sk52, rfl, rfl⟩
  show P0 _ _ _ _ (131, [some (.ref 0), some (.int (nI x)), some (.int 15), some (.ref (26 + 2 * x))], [.int (cSay (Vs t) q (a 1) (g 0) x 5)], hX g a q u v z52 (up2 b 13 sk52) c y t tc TX) _
  refine P0.b GX10_told 1 (ob := []) (cf' := (136, [some (.ref 0), some (.int (nI x)), some (.int 15), some (.ref (26 + 2 * x))], [.int (cSay (Vs t) q (a 1) (g 0) x 5)], hX g a q u v z52 (up2 b 13 sk52) c y t tc TX)) rfl trivial ?_
  exact P0.ri (by decide +kernel) rfl rfl ⟨(z52, up2 b 13 sk52, c, y), hC, rfl, rfl⟩
theorem le16 {w : Int32} (h : ¬ w < 10) (h15 : ¬ (10 ≤ w ∧ w ≤ 15)) : 16 ≤ w := by
  have h := Int32.not_lt.mp h
  have h2 : ¬ w ≤ 15 := fun z => h15 ⟨h, z⟩
  have h2 := Int32.not_le.mp h2
  rw [Int32.lt_iff_toInt_lt] at h2
  rw [Int32.le_iff_toInt_le]
  have e6 : (16 : Int32).toInt = 16 := by decide
  have e5 : (15 : Int32).toInt = 15 := by decide
  omega
set_option maxHeartbeats 1000000 in
theorem k_told_no {g z : Nat → Int32} {a q u v b c y : Nat → Nat → Int32} {t tc : Nat} {TX : PH} (hO : TX.length ≤ 18) {m : Nat} (hm : g 1 = nI m) (hm6 : m ≤ 6) {x : Nat} (hx : x < m) {what : Int32} (h6 : ¬ (0 ≤ what ∧ what ≤ 6)) (h15 : ¬ (10 ≤ what ∧ what ≤ 15)) : P0 5 0 0 mX10_told (0, ent 4 [.ref 0, .int (nI x), .int what], [], hX g a q u v z b c y t tc TX) (fun r h' => r = some (.int (-2)) ∧ h' = hX g a q u v z b c y t tc TX) := by
  refine P0.b GX10_told 2 (ob := []) (cf' := (if what = 0 then 4 else 9, [some (.ref 0), some (.int (nI x)), some (.int what), none], [], hX g a q u v z b c y t tc TX)) rfl trivial ?_
  rw [if_neg (show ¬ (what = 0) from fun z => h6 (by rw [z]; decide))]
  refine P0.b GX10_told 3 (ob := []) (cf' := (if what = 1 then 14 else 35, [some (.ref 0), some (.int (nI x)), some (.int what), none], [], hX g a q u v z b c y t tc TX)) rfl trivial ?_
  rw [if_neg (show ¬ (what = 1) from fun z => h6 (by rw [z]; decide))]
  refine P0.b GX10_told 2 (ob := []) (cf' := (37, [some (.ref 0), some (.int (nI x)), some (.int what), none], [.int (nI x), .ref 0], hX g a q u v z b c y t tc TX)) rfl trivial ?_
  refine P0.cs (d := 4) (as := [.ref 0, .int (nI x)]) (rest := []) GX10_witnessAt kX10_told_37 rfl ⟨_, _, rfl, rfl, .inl ⟨_, _, _, _, rfl, rfl⟩⟩ (Nat.le_of_ble_eq_true rfl) (Nat.le_of_ble_eq_true rfl) (P0.mono (witAt_ok hm hm6 (x := x) (by omega)) (Nat.le_of_ble_eq_true rfl) (Nat.zero_le _) (Nat.zero_le _) (fun _ _ q => q)) (hXl hO) (fun _ _ q => (congrArg List.length q.2).trans hX_lq) ?_
  rintro _ _ ⟨rfl, rfl⟩
  show P0 _ _ _ _ (40, [some (.ref 0), some (.int (nI x)), some (.int what), none], [.ref (26 + 2 * x)], hX g a q u v z b c y t tc TX) _
  refine P0.b GX10_told 5 (ob := []) (cf' := (swT what 110 [(2, 84), (3, 89), (4, 94), (5, 99), (6, 104)], [some (.ref 0), some (.int (nI x)), some (.int what), some (.ref (26 + 2 * x))], [], hX g a q u v z b c y t tc TX)) rfl trivial ?_
  refine P0.sw (fun h1 => ?_) (fun h1 => ?_)
  · exact absurd (show 0 ≤ what ∧ what ≤ 6 by rw [h1]; decide) h6
  · refine P0.sw (fun h2 => ?_) (fun h2 => ?_)
    · exact absurd (show 0 ≤ what ∧ what ≤ 6 by rw [h2]; decide) h6
    · refine P0.sw (fun h3 => ?_) (fun h3 => ?_)
      · exact absurd (show 0 ≤ what ∧ what ≤ 6 by rw [h3]; decide) h6
      · refine P0.sw (fun h4 => ?_) (fun h4 => ?_)
        · exact absurd (show 0 ≤ what ∧ what ≤ 6 by rw [h4]; decide) h6
        · refine P0.sw (fun h5 => ?_) (fun h5 => ?_)
          · exact absurd (show 0 ≤ what ∧ what ≤ 6 by rw [h5]; decide) h6
          · show P0 _ _ _ _ (110, _, _, _) _
            refine P0.b GX10_told 3 (ob := []) (cf' := (if what < 10 then 134 else 116, [some (.ref 0), some (.int (nI x)), some (.int what), some (.ref (26 + 2 * x))], [], hX g a q u v z b c y t tc TX)) rfl trivial ?_
            refine P0.if (fun h6 => ?_) (fun h6 => ?_)
            · refine P0.b GX10_told 1 (ob := []) (cf' := (136, [some (.ref 0), some (.int (nI x)), some (.int what), some (.ref (26 + 2 * x))], [.int (-2)], hX g a q u v z b c y t tc TX)) rfl trivial ?_
              exact P0.ri (by decide +kernel) rfl rfl ⟨rfl, rfl⟩
            · refine P0.b GX10_told 3 (ob := []) (cf' := (if 16 ≤ what then 134 else 122, [some (.ref 0), some (.int (nI x)), some (.int what), some (.ref (26 + 2 * x))], [], hX g a q u v z b c y t tc TX)) rfl trivial ?_
              rw [if_pos (show 16 ≤ what from le16 h6 h15)]
              refine P0.b GX10_told 1 (ob := []) (cf' := (136, [some (.ref 0), some (.int (nI x)), some (.int what), some (.ref (26 + 2 * x))], [.int (-2)], hX g a q u v z b c y t tc TX)) rfl trivial ?_
              exact P0.ri (by decide +kernel) rfl rfl ⟨rfl, rfl⟩
set_option maxHeartbeats 1000000 in
theorem k_feed_no {g z : Nat → Int32} {a q u v b c y : Nat → Nat → Int32} {t tc : Nat} {TX : PH} (hO : TX.length ≤ 18) {x : Int32} (h : ¬ (0 ≤ x ∧ x ≤ 255)) : P0 1 0 0 mX10_feed (0, ent 2 [.ref 0, .int x], [], hX g a q u v z b c y t tc TX) (fun r h' => r = some (.int (-2)) ∧ h' = hX g a q u v z b c y t tc TX) := by
  refine P0.b GX10_feed 2 (ob := []) (cf' := (4, [some (.ref 0), some (.int x)], [.int 255, .int x], hX g a q u v z b c y t tc TX)) rfl trivial ?_
  refine P0.cr (io := []) (as := [.int x, .int 255]) (rest := []) (hc := []) (hc1 := []) (r1 := some (.int (if 0 ≤ x ∧ x ≤ 255 then 1 else 0))) (st' := [.int (if 0 ≤ x ∧ x ≤ 255 then 1 else 0)]) (h' := hX g a q u v z b c y t tc TX) (d0 := 0) GX10_isWithin kX10_feed_4 rfl rfl (Nat.le_of_ble_eq_true rfl) (Nat.le_of_ble_eq_true rfl) rfl trivial (within_n x 255) (Nat.le_of_ble_eq_true rfl) rfl (Nat.le_of_ble_eq_true rfl) (hXl hO) rfl ((putL_f rfl).trans rfl) (?_)
  show P0 _ _ _ _ (7, [some (.ref 0), some (.int x)], [.int (if 0 ≤ x ∧ x ≤ 255 then 1 else 0)], hX g a q u v z b c y t tc TX) _
  refine P0.b GX10_feed 1 (ob := []) (cf' := (if (if 0 ≤ x ∧ x ≤ 255 then 1 else 0) = 0 then 10 else 13, [some (.ref 0), some (.int x)], [], hX g a q u v z b c y t tc TX)) rfl trivial ?_
  rw [if_neg (show ¬ (0 ≤ x ∧ x ≤ 255) from h), if_pos rfl]
  refine P0.b GX10_feed 1 (ob := []) (cf' := (12, [some (.ref 0), some (.int x)], [.int (-2)], hX g a q u v z b c y t tc TX)) rfl trivial ?_
  exact P0.ri (by decide +kernel) rfl rfl ⟨rfl, rfl⟩
set_option maxHeartbeats 1000000 in
theorem k_feed_full {g z : Nat → Int32} {a q u v b c y : Nat → Nat → Int32} {t tc : Nat} {TX : PH} (hO : TX.length ≤ 18) {x : Int32} (h : 0 ≤ x ∧ x ≤ 255) (h6 : g 3 = 160) : P0 1 0 0 mX10_feed (0, ent 2 [.ref 0, .int x], [], hX g a q u v z b c y t tc TX) (fun r h' => r = some (.int (-4)) ∧ h' = hX g a q u v z b c y t tc TX) := by
  refine P0.b GX10_feed 2 (ob := []) (cf' := (4, [some (.ref 0), some (.int x)], [.int 255, .int x], hX g a q u v z b c y t tc TX)) rfl trivial ?_
  refine P0.cr (io := []) (as := [.int x, .int 255]) (rest := []) (hc := []) (hc1 := []) (r1 := some (.int (if 0 ≤ x ∧ x ≤ 255 then 1 else 0))) (st' := [.int (if 0 ≤ x ∧ x ≤ 255 then 1 else 0)]) (h' := hX g a q u v z b c y t tc TX) (d0 := 0) GX10_isWithin kX10_feed_4 rfl rfl (Nat.le_of_ble_eq_true rfl) (Nat.le_of_ble_eq_true rfl) rfl trivial (within_n x 255) (Nat.le_of_ble_eq_true rfl) rfl (Nat.le_of_ble_eq_true rfl) (hXl hO) rfl ((putL_f rfl).trans rfl) (?_)
  show P0 _ _ _ _ (7, [some (.ref 0), some (.int x)], [.int (if 0 ≤ x ∧ x ≤ 255 then 1 else 0)], hX g a q u v z b c y t tc TX) _
  refine P0.b GX10_feed 1 (ob := []) (cf' := (if (if 0 ≤ x ∧ x ≤ 255 then 1 else 0) = 0 then 10 else 13, [some (.ref 0), some (.int x)], [], hX g a q u v z b c y t tc TX)) rfl trivial ?_
  rw [if_pos (show 0 ≤ x ∧ x ≤ 255 from h), if_neg (by decide)]
  refine P0.b GX10_feed 4 (ob := []) (cf' := (if g 3 < 160 then 26 else 23, [some (.ref 0), some (.int x)], [], hX g a q u v z b c y t tc TX)) rfl trivial ?_
  rw [show g 3 = 160 from h6]
  rw [if_neg (show ¬ ((160 : Int32) < 160) from by decide)]
  refine P0.b GX10_feed 1 (ob := []) (cf' := (25, [some (.ref 0), some (.int x)], [.int (-4)], hX g a q u v z b c y t tc TX)) rfl trivial ?_
  exact P0.ri (by decide +kernel) rfl rfl ⟨rfl, rfl⟩
set_option maxHeartbeats 1000000 in
theorem k_feed_ok {g z : Nat → Int32} {a q u v b c y : Nat → Nat → Int32} {t tc : Nat} {TX : PH} (hO : TX.length ≤ 18) {x : Int32} (h : 0 ≤ x ∧ x ≤ 255) {n : Nat} (hn : g 3 = nI n) (hn6 : n < 160) : P0 1 0 0 mX10_feed (0, ent 2 [.ref 0, .int x], [], hX g a q u v z b c y t tc TX) (fun r h' => r = some (.int (nI (n + 1))) ∧ h' = hX (upd g 3 (nI (n + 1))) (up2 a 5 (upd (a 5) n x)) q u v z b c y t tc TX) := by
  refine P0.b GX10_feed 2 (ob := []) (cf' := (4, [some (.ref 0), some (.int x)], [.int 255, .int x], hX g a q u v z b c y t tc TX)) rfl trivial ?_
  refine P0.cr (io := []) (as := [.int x, .int 255]) (rest := []) (hc := []) (hc1 := []) (r1 := some (.int (if 0 ≤ x ∧ x ≤ 255 then 1 else 0))) (st' := [.int (if 0 ≤ x ∧ x ≤ 255 then 1 else 0)]) (h' := hX g a q u v z b c y t tc TX) (d0 := 0) GX10_isWithin kX10_feed_4 rfl rfl (Nat.le_of_ble_eq_true rfl) (Nat.le_of_ble_eq_true rfl) rfl trivial (within_n x 255) (Nat.le_of_ble_eq_true rfl) rfl (Nat.le_of_ble_eq_true rfl) (hXl hO) rfl ((putL_f rfl).trans rfl) (?_)
  show P0 _ _ _ _ (7, [some (.ref 0), some (.int x)], [.int (if 0 ≤ x ∧ x ≤ 255 then 1 else 0)], hX g a q u v z b c y t tc TX) _
  refine P0.b GX10_feed 1 (ob := []) (cf' := (if (if 0 ≤ x ∧ x ≤ 255 then 1 else 0) = 0 then 10 else 13, [some (.ref 0), some (.int x)], [], hX g a q u v z b c y t tc TX)) rfl trivial ?_
  rw [if_pos (show 0 ≤ x ∧ x ≤ 255 from h), if_neg (by decide)]
  refine P0.b GX10_feed 4 (ob := []) (cf' := (if g 3 < 160 then 26 else 23, [some (.ref 0), some (.int x)], [], hX g a q u v z b c y t tc TX)) rfl trivial ?_
  rw [show g 3 = nI n from hn]
  rw [if_pos (show nI n < 160 from nI_lt (b := 160) (by omega) (by decide))]
  refine P0.b GX10_feed 5 (ob := []) (cf' := (35, [some (.ref 0), some (.int x)], [.int x, .int (g 3), .ref 5], hX g a q u v z b c y t tc TX)) rfl trivial ?_
  rw [show g 3 = nI n from hn]
  refine P0.cr (io := [5]) (as := [.ref 0, .int (nI n), .int x]) (rest := []) (hc := [pI 160 (a 5)]) (hc1 := [pI 160 (upd (a 5) n x)]) (r1 := none) (st' := []) (h' := hX g (up2 a 5 (upd (a 5) n x)) q u v z b c y t tc TX) (d0 := 0) GX5_put kX10_feed_35 rfl rfl (Nat.le_of_ble_eq_true rfl) (Nat.le_of_ble_eq_true rfl) rfl ⟨rfl, trivial⟩ (put_in (n := 160) (by decide) (a 5) (k := n) (by omega) x) (Nat.le_of_ble_eq_true rfl) rfl (Nat.le_of_ble_eq_true rfl) (hXl hO) rfl ((putL_f rfl).trans rfl) (?_)
  show P0 _ _ _ _ (38, [some (.ref 0), some (.int x)], [], hX g (up2 a 5 (upd (a 5) n x)) q u v z b c y t tc TX) _
  refine P0.b GX10_feed 6 (ob := []) (cf' := (48, [some (.ref 0), some (.int x)], [], hX (upd g 3 ((g 3) + 1)) (up2 a 5 (upd (a 5) n x)) q u v z b c y t tc TX)) rfl trivial ?_
  rw [show g 3 = nI n from hn]
  rw [show (nI n) + 1 = nI (n + 1) from nI_add _ _]
  refine P0.b GX10_feed 2 (ob := []) (cf' := (52, [some (.ref 0), some (.int x)], [.int (nI (n + 1))], hX (upd g 3 (nI (n + 1))) (up2 a 5 (upd (a 5) n x)) q u v z b c y t tc TX)) rfl trivial ?_
  exact P0.ri (by decide +kernel) rfl rfl ⟨rfl, rfl⟩
set_option maxHeartbeats 1000000 in
theorem k_force_no {g z : Nat → Int32} {a q u v b c y : Nat → Nat → Int32} {t tc : Nat} {TX : PH} (hO : TX.length ≤ 18) {x : Int32} (h : ¬ (0 ≤ x ∧ x < g 2)) : P0 1 0 0 mX10_force (0, ent 4 [.ref 0, .int x], [], hX g a q u v z b c y t tc TX) (fun r h' => r = some (.int (-2)) ∧ h' = hX g a q u v z b c y t tc TX) := by
  refine P0.b GX10_force 2 (ob := []) (cf' := (2, [some (.ref 0), some (.int x), none, none], [.int x, .ref 0], hX g a q u v z b c y t tc TX)) rfl trivial ?_
  refine P0.cs (d := 0) (as := [.ref 0, .int x]) (rest := []) GX10_textAt kX10_force_2 rfl ⟨_, _, rfl, rfl, .inl ⟨_, _, _, _, rfl, rfl⟩⟩ (Nat.le_of_ble_eq_true rfl) (Nat.le_of_ble_eq_true rfl) (P0.mono (txtAt_no h) (Nat.le_of_ble_eq_true rfl) (Nat.zero_le _) (Nat.zero_le _) (fun _ _ q => q)) (hXl hO) (fun _ _ q => (congrArg List.length q.2).trans hX_lq) ?_
  rintro _ _ ⟨rfl, rfl⟩
  show P0 _ _ _ _ (5, [some (.ref 0), some (.int x), none, none], [.null], hX g a q u v z b c y t tc TX) _
  refine P0.b GX10_force 4 (ob := []) (cf' := (12, [some (.ref 0), some (.int x), some (.null), none], [.int (-2)], hX g a q u v z b c y t tc TX)) rfl trivial ?_
  exact P0.ri (by decide +kernel) rfl rfl ⟨rfl, rfl⟩
set_option maxHeartbeats 1000000 in
theorem k_force_yes {g z : Nat → Int32} {a q u v b c y : Nat → Nat → Int32} {t tc : Nat} {TX : PH} (hO : TX.length ≤ 18) (htc : g 2 = nI tc) (htc6 : tc ≤ 6) {i : Nat} (hi : i < tc) : P0 1 0 0 mX10_force (0, ent 4 [.ref 0, .int (nI i)], [], hX g a q u v z b c y t tc TX) (fun r h' => r = some (.int (g 4)) ∧ h' = hX (upd g 4 (nI i)) a q u v z b c y i tc TX) := by
  refine P0.b GX10_force 2 (ob := []) (cf' := (2, [some (.ref 0), some (.int (nI i)), none, none], [.int (nI i), .ref 0], hX g a q u v z b c y t tc TX)) rfl trivial ?_
  refine P0.cs (d := 0) (as := [.ref 0, .int (nI i)]) (rest := []) GX10_textAt kX10_force_2 rfl ⟨_, _, rfl, rfl, .inl ⟨_, _, _, _, rfl, rfl⟩⟩ (Nat.le_of_ble_eq_true rfl) (Nat.le_of_ble_eq_true rfl) (P0.mono (txtAt_ok htc htc6 (x := i) (by omega)) (Nat.le_of_ble_eq_true rfl) (Nat.zero_le _) (Nat.zero_le _) (fun _ _ q => q)) (hXl hO) (fun _ _ q => (congrArg List.length q.2).trans hX_lq) ?_
  rintro _ _ ⟨rfl, rfl⟩
  show P0 _ _ _ _ (5, [some (.ref 0), some (.int (nI i)), none, none], [.ref (46 + 3 * i)], hX g a q u v z b c y t tc TX) _
  refine P0.b GX10_force 8 (ob := []) (cf' := (20, [some (.ref 0), some (.int (nI i)), some (.ref (46 + 3 * i)), some (.int (g 4))], [.ref (46 + 3 * i), .ref 0], hX g a q u v z b c y t tc TX)) rfl trivial ?_
  refine P0.b GX10_force 1 (ob := []) (cf' := (23, [some (.ref 0), some (.int (nI i)), some (.ref (46 + 3 * i)), some (.int (g 4))], [], hX g a q u v z b c y i tc TX)) rfl trivial ?_
  refine P0.b GX10_force 3 (ob := []) (cf' := (28, [some (.ref 0), some (.int (nI i)), some (.ref (46 + 3 * i)), some (.int (g 4))], [], hX (upd g 4 (nI i)) a q u v z b c y i tc TX)) rfl trivial ?_
  refine P0.b GX10_force 1 (ob := []) (cf' := (29, [some (.ref 0), some (.int (nI i)), some (.ref (46 + 3 * i)), some (.int (g 4))], [.int (g 4)], hX (upd g 4 (nI i)) a q u v z b c y i tc TX)) rfl trivial ?_
  exact P0.ri (by decide +kernel) rfl rfl ⟨rfl, rfl⟩
set_option maxHeartbeats 1000000 in
theorem k_count0 {g z : Nat → Int32} {a q u v b c y : Nat → Nat → Int32} {t tc : Nat} {TX : PH} : P0 2 0 0 mX10_count (0, ent 2 [.ref 0, .int 0], [], hX g a q u v z b c y t tc TX) (fun r h' => r = some (.int (g 1)) ∧ h' = hX g a q u v z b c y t tc TX) := by
  refine P0.b GX10_count 2 (ob := []) (cf' := (swT 0 64 [(0, 36), (1, 41), (2, 49), (3, 54), (4, 59)], [some (.ref 0), some (.int 0)], [], hX g a q u v z b c y t tc TX)) rfl trivial ?_
  rw [show swT (0 : Int32) 64 [(0, 36), (1, 41), (2, 49), (3, 54), (4, 59)] = 36 from by decide +kernel]
  refine P0.b GX10_count 2 (ob := []) (cf' := (40, [some (.ref 0), some (.int 0)], [.int (g 1)], hX g a q u v z b c y t tc TX)) rfl trivial ?_
  exact P0.ri (by decide +kernel) rfl rfl ⟨rfl, rfl⟩
set_option maxHeartbeats 1000000 in
theorem k_count2 {g z : Nat → Int32} {a q u v b c y : Nat → Nat → Int32} {t tc : Nat} {TX : PH} : P0 2 0 0 mX10_count (0, ent 2 [.ref 0, .int 2], [], hX g a q u v z b c y t tc TX) (fun r h' => r = some (.int (g 2)) ∧ h' = hX g a q u v z b c y t tc TX) := by
  refine P0.b GX10_count 2 (ob := []) (cf' := (swT 2 64 [(0, 36), (1, 41), (2, 49), (3, 54), (4, 59)], [some (.ref 0), some (.int 2)], [], hX g a q u v z b c y t tc TX)) rfl trivial ?_
  rw [show swT (2 : Int32) 64 [(0, 36), (1, 41), (2, 49), (3, 54), (4, 59)] = 49 from by decide +kernel]
  refine P0.b GX10_count 2 (ob := []) (cf' := (53, [some (.ref 0), some (.int 2)], [.int (g 2)], hX g a q u v z b c y t tc TX)) rfl trivial ?_
  exact P0.ri (by decide +kernel) rfl rfl ⟨rfl, rfl⟩
set_option maxHeartbeats 1000000 in
theorem k_count3 {g z : Nat → Int32} {a q u v b c y : Nat → Nat → Int32} {t tc : Nat} {TX : PH} : P0 2 0 0 mX10_count (0, ent 2 [.ref 0, .int 3], [], hX g a q u v z b c y t tc TX) (fun r h' => r = some (.int (g 3)) ∧ h' = hX g a q u v z b c y t tc TX) := by
  refine P0.b GX10_count 2 (ob := []) (cf' := (swT 3 64 [(0, 36), (1, 41), (2, 49), (3, 54), (4, 59)], [some (.ref 0), some (.int 3)], [], hX g a q u v z b c y t tc TX)) rfl trivial ?_
  rw [show swT (3 : Int32) 64 [(0, 36), (1, 41), (2, 49), (3, 54), (4, 59)] = 54 from by decide +kernel]
  refine P0.b GX10_count 2 (ob := []) (cf' := (58, [some (.ref 0), some (.int 3)], [.int (g 3)], hX g a q u v z b c y t tc TX)) rfl trivial ?_
  exact P0.ri (by decide +kernel) rfl rfl ⟨rfl, rfl⟩
set_option maxHeartbeats 1000000 in
theorem k_count4 {g z : Nat → Int32} {a q u v b c y : Nat → Nat → Int32} {t tc : Nat} {TX : PH} : P0 2 0 0 mX10_count (0, ent 2 [.ref 0, .int 4], [], hX g a q u v z b c y t tc TX) (fun r h' => r = some (.int (g 4)) ∧ h' = hX g a q u v z b c y t tc TX) := by
  refine P0.b GX10_count 2 (ob := []) (cf' := (swT 4 64 [(0, 36), (1, 41), (2, 49), (3, 54), (4, 59)], [some (.ref 0), some (.int 4)], [], hX g a q u v z b c y t tc TX)) rfl trivial ?_
  rw [show swT (4 : Int32) 64 [(0, 36), (1, 41), (2, 49), (3, 54), (4, 59)] = 59 from by decide +kernel]
  refine P0.b GX10_count 2 (ob := []) (cf' := (63, [some (.ref 0), some (.int 4)], [.int (g 4)], hX g a q u v z b c y t tc TX)) rfl trivial ?_
  exact P0.ri (by decide +kernel) rfl rfl ⟨rfl, rfl⟩
theorem sb_lt (q : Nat → Nat → Int32) {m : Nat} (hm : m ≤ 6) : ∃ v, v < 64 ∧ sbV q m = nI v := by
  have : ∀ n, n ≤ 6 → ∃ v, v < 2 ^ n ∧ sbV q n = nI v := by
    intro n
    induction n with
    | zero => intro _; exact ⟨0, by decide, nI_0.symm⟩
    | succ n ih =>
      intro hn
      obtain ⟨v, hv, e⟩ := ih (by omega)
      have hv6 : v < 64 := Nat.lt_of_lt_of_le hv (Nat.pow_le_pow_right (n := 2) (by decide) (show n ≤ 6 by omega))
      have key : ∀ n, n < 6 → ∀ v, v < 2 ^ n → v ||| 2 ^ n < 2 ^ (n + 1) ∧ nI v ||| (1 <<< (nI n &&& 31)) = nI (v ||| 2 ^ n) := by decide +kernel
      show ∃ w, w < 2 ^ (n + 1) ∧ sbF q n (sbV q n) = nI w
      unfold sbF
      rw [e]
      by_cases h : q n 4 = 1
      · rw [if_pos h]; exact ⟨_, (key n (by omega) v hv).1, (key n (by omega) v hv).2⟩
      · rw [if_neg h]; exact ⟨v, by rw [Nat.pow_succ]; omega, rfl⟩
  obtain ⟨v, hv, e⟩ := this m hm
  exact ⟨v, Nat.lt_of_lt_of_le hv (Nat.pow_le_pow_right (n := 2) (by decide) hm), e⟩
set_option maxHeartbeats 1000000 in
theorem k_count1 {g z : Nat → Int32} {a q u v b c y : Nat → Nat → Int32} {t tc : Nat} {TX : PH} (hO : TX.length ≤ 18) {m : Nat} (hm : g 1 = nI m) (hm6 : m ≤ 6) : P0 2 0 0 mX10_count (0, ent 2 [.ref 0, .int 1], [], hX g a q u v z b c y t tc TX) (fun r h' => r = some (.int (kb 7 (sbV q m))) ∧ h' = hX g a q u v z b c y t tc TX) := by
  refine P0.b GX10_count 2 (ob := []) (cf' := (swT 1 64 [(0, 36), (1, 41), (2, 49), (3, 54), (4, 59)], [some (.ref 0), some (.int 1)], [], hX g a q u v z b c y t tc TX)) rfl trivial ?_
  rw [show swT (1 : Int32) 64 [(0, 36), (1, 41), (2, 49), (3, 54), (4, 59)] = 41 from by decide +kernel]
  refine P0.b GX10_count 1 (ob := []) (cf' := (42, [some (.ref 0), some (.int 1)], [.ref 0], hX g a q u v z b c y t tc TX)) rfl trivial ?_
  refine P0.cs (d := 1) (as := [.ref 0]) (rest := []) GX10_sentBits kX10_count_42 rfl ⟨_, _, rfl, rfl, .inl ⟨_, _, _, _, rfl, rfl⟩⟩ (Nat.le_of_ble_eq_true rfl) (Nat.le_of_ble_eq_true rfl) (P0.mono (sentBits_n hO hm hm6) (Nat.le_of_ble_eq_true rfl) (Nat.zero_le _) (Nat.zero_le _) (fun _ _ q => q)) (hXl hO) (fun _ _ q => (congrArg List.length q.2).trans hX_lq) ?_
  rintro _ _ ⟨rfl, rfl⟩
  show P0 _ _ _ _ (45, [some (.ref 0), some (.int 1)], [.int (sbV q m)], hX g a q u v z b c y t tc TX) _
  refine P0.cr (io := []) (as := [.int (sbV q m)]) (rest := []) (hc := []) (hc1 := []) (r1 := some (.int (kb 7 (sbV q m)))) (st' := [.int (kb 7 (sbV q m))]) (h' := hX g a q u v z b c y t tc TX) (d0 := 0) GJ6_bitCount_0f7a4 kX10_count_45 rfl rfl (Nat.le_of_ble_eq_true rfl) (Nat.le_of_ble_eq_true rfl) rfl trivial (bc_n (sb_lt q hm6)) (Nat.le_of_ble_eq_true rfl) rfl (Nat.le_of_ble_eq_true rfl) (hXl hO) rfl ((putL_f rfl).trans rfl) (?_)
  show P0 _ _ _ _ (48, [some (.ref 0), some (.int 1)], [.int (kb 7 (sbV q m))], hX g a q u v z b c y t tc TX) _
  exact P0.ri (by decide +kernel) rfl rfl ⟨rfl, rfl⟩
set_option maxHeartbeats 1000000 in
theorem k_count_no {g z : Nat → Int32} {a q u v b c y : Nat → Nat → Int32} {t tc : Nat} {TX : PH} {x : Int32} (h : ¬ (0 ≤ x ∧ x ≤ 4)) : P0 2 0 0 mX10_count (0, ent 2 [.ref 0, .int x], [], hX g a q u v z b c y t tc TX) (fun r h' => r = some (.int (-2)) ∧ h' = hX g a q u v z b c y t tc TX) := by
  refine P0.b GX10_count 2 (ob := []) (cf' := (swT x 64 [(0, 36), (1, 41), (2, 49), (3, 54), (4, 59)], [some (.ref 0), some (.int x)], [], hX g a q u v z b c y t tc TX)) rfl trivial ?_
  refine P0.sw (fun h1 => ?_) (fun h1 => ?_)
  · exact absurd (show 0 ≤ x ∧ x ≤ 4 by rw [h1]; decide) h
  · refine P0.sw (fun h2 => ?_) (fun h2 => ?_)
    · exact absurd (show 0 ≤ x ∧ x ≤ 4 by rw [h2]; decide) h
    · refine P0.sw (fun h3 => ?_) (fun h3 => ?_)
      · exact absurd (show 0 ≤ x ∧ x ≤ 4 by rw [h3]; decide) h
      · refine P0.sw (fun h4 => ?_) (fun h4 => ?_)
        · exact absurd (show 0 ≤ x ∧ x ≤ 4 by rw [h4]; decide) h
        · refine P0.sw (fun h5 => ?_) (fun h5 => ?_)
          · exact absurd (show 0 ≤ x ∧ x ≤ 4 by rw [h5]; decide) h
          · show P0 _ _ _ _ (64, _, _, _) _
            refine P0.b GX10_count 1 (ob := []) (cf' := (66, [some (.ref 0), some (.int x)], [.int (-2)], hX g a q u v z b c y t tc TX)) rfl trivial ?_
            exact P0.ri (by decide +kernel) rfl rfl ⟨rfl, rfl⟩
