/-! ===== laid by program (wip/tools) ===== -/
set_option maxHeartbeats 1000000 in
theorem witness_no {g z : Nat → Int32} {w : Int64} {a b : Nat → Nat → Int32} (kind number saw : Int32) (h : ¬ ((0 ≤ kind ∧ kind ≤ 5) ∧ (0 ≤ number ∧ number ≤ 9) ∧ (0 ≤ saw ∧ saw ≤ 63))) : P0 1 0 0 mX11_witness (0, ent 4 [.ref 0, .int kind, .int number, .int saw], [], hC g z w a b) (fun r h' => r = some (.int (-2)) ∧ h' = hC g z w a b) := by
  refine P0.b GX11_witness 4 (ob := []) (cf' := (6, [some (.ref 0), some (.int kind), some (.int number), some (.int saw)], [.long 5, .long 0, .long kind.toInt64], hC g z w a b)) rfl trivial ?_
  refine P0.cr (io := []) (as := [.long kind.toInt64, .long ((0 : Int32).toInt64), .long ((5 : Int32).toInt64)]) (rest := []) (hc := []) (hc1 := []) (r1 := some (.int (if 0 ≤ kind ∧ kind ≤ 5 then 1 else 0))) (st' := [.int (if 0 ≤ kind ∧ kind ≤ 5 then 1 else 0)]) (h' := hC g z w a b) (d0 := 0) GX11_in kX11_witness_6 rfl rfl (Nat.le_of_ble_eq_true rfl) (Nat.le_of_ble_eq_true rfl) rfl trivial (e_in32 kind 0 5) (Nat.le_of_ble_eq_true rfl) rfl (Nat.le_of_ble_eq_true rfl) (Nat.le_of_ble_eq_true rfl) rfl rfl ?_
  refine P0.b GX11_witness 1 (ob := []) (cf' := (if (if 0 ≤ kind ∧ kind ≤ 5 then 1 else 0) = 0 then 36 else 12, [some (.ref 0), some (.int kind), some (.int number), some (.int saw)], [], hC g z w a b)) rfl trivial ?_
  refine P0.ifB (fun h1 => ?_) (fun h1 => ?_)
  · refine P0.b GX11_witness 1 (ob := []) (cf' := (38, [some (.ref 0), some (.int kind), some (.int number), some (.int saw)], [.int (-2)], hC g z w a b)) rfl trivial ?_
    exact P0.ri (by decide +kernel) rfl rfl ⟨rfl, rfl⟩
  · refine P0.b GX11_witness 4 (ob := []) (cf' := (18, [some (.ref 0), some (.int kind), some (.int number), some (.int saw)], [.long 9, .long 0, .long number.toInt64], hC g z w a b)) rfl trivial ?_
    refine P0.cr (io := []) (as := [.long number.toInt64, .long ((0 : Int32).toInt64), .long ((9 : Int32).toInt64)]) (rest := []) (hc := []) (hc1 := []) (r1 := some (.int (if 0 ≤ number ∧ number ≤ 9 then 1 else 0))) (st' := [.int (if 0 ≤ number ∧ number ≤ 9 then 1 else 0)]) (h' := hC g z w a b) (d0 := 0) GX11_in kX11_witness_18 rfl rfl (Nat.le_of_ble_eq_true rfl) (Nat.le_of_ble_eq_true rfl) rfl trivial (e_in32 number 0 9) (Nat.le_of_ble_eq_true rfl) rfl (Nat.le_of_ble_eq_true rfl) (Nat.le_of_ble_eq_true rfl) rfl rfl ?_
    refine P0.b GX11_witness 1 (ob := []) (cf' := (if (if 0 ≤ number ∧ number ≤ 9 then 1 else 0) = 0 then 36 else 24, [some (.ref 0), some (.int kind), some (.int number), some (.int saw)], [], hC g z w a b)) rfl trivial ?_
    refine P0.ifB (fun h2 => ?_) (fun h2 => ?_)
    · refine P0.b GX11_witness 1 (ob := []) (cf' := (38, [some (.ref 0), some (.int kind), some (.int number), some (.int saw)], [.int (-2)], hC g z w a b)) rfl trivial ?_
      exact P0.ri (by decide +kernel) rfl rfl ⟨rfl, rfl⟩
    · refine P0.b GX11_witness 4 (ob := []) (cf' := (30, [some (.ref 0), some (.int kind), some (.int number), some (.int saw)], [.long 63, .long 0, .long saw.toInt64], hC g z w a b)) rfl trivial ?_
      refine P0.cr (io := []) (as := [.long saw.toInt64, .long ((0 : Int32).toInt64), .long ((63 : Int32).toInt64)]) (rest := []) (hc := []) (hc1 := []) (r1 := some (.int (if 0 ≤ saw ∧ saw ≤ 63 then 1 else 0))) (st' := [.int (if 0 ≤ saw ∧ saw ≤ 63 then 1 else 0)]) (h' := hC g z w a b) (d0 := 0) GX11_in kX11_witness_30 rfl rfl (Nat.le_of_ble_eq_true rfl) (Nat.le_of_ble_eq_true rfl) rfl trivial (e_in32 saw 0 63) (Nat.le_of_ble_eq_true rfl) rfl (Nat.le_of_ble_eq_true rfl) (Nat.le_of_ble_eq_true rfl) rfl rfl ?_
      refine P0.b GX11_witness 1 (ob := []) (cf' := (if (if 0 ≤ saw ∧ saw ≤ 63 then 1 else 0) = 0 then 36 else 39, [some (.ref 0), some (.int kind), some (.int number), some (.int saw)], [], hC g z w a b)) rfl trivial ?_
      rw [if_neg (show ¬ (0 ≤ saw ∧ saw ≤ 63) from fun z => h ⟨h1, h2, z⟩), if_pos rfl]
      refine P0.b GX11_witness 1 (ob := []) (cf' := (38, [some (.ref 0), some (.int kind), some (.int number), some (.int saw)], [.int (-2)], hC g z w a b)) rfl trivial ?_
      exact P0.ri (by decide +kernel) rfl rfl ⟨rfl, rfl⟩
set_option maxHeartbeats 1000000 in
theorem witness_full {g z : Nat → Int32} {w : Int64} {a b : Nat → Nat → Int32} (kind number saw : Int32) (h : (0 ≤ kind ∧ kind ≤ 5) ∧ (0 ≤ number ∧ number ≤ 9) ∧ (0 ≤ saw ∧ saw ≤ 63)) (hf : g 11 = 6) : P0 1 0 0 mX11_witness (0, ent 4 [.ref 0, .int kind, .int number, .int saw], [], hC g z w a b) (fun r h' => r = some (.int (-4)) ∧ h' = hC g z w a b) := by
  refine P0.b GX11_witness 4 (ob := []) (cf' := (6, [some (.ref 0), some (.int kind), some (.int number), some (.int saw)], [.long 5, .long 0, .long kind.toInt64], hC g z w a b)) rfl trivial ?_
  refine P0.cr (io := []) (as := [.long kind.toInt64, .long ((0 : Int32).toInt64), .long ((5 : Int32).toInt64)]) (rest := []) (hc := []) (hc1 := []) (r1 := some (.int (if 0 ≤ kind ∧ kind ≤ 5 then 1 else 0))) (st' := [.int (if 0 ≤ kind ∧ kind ≤ 5 then 1 else 0)]) (h' := hC g z w a b) (d0 := 0) GX11_in kX11_witness_6 rfl rfl (Nat.le_of_ble_eq_true rfl) (Nat.le_of_ble_eq_true rfl) rfl trivial (e_in32 kind 0 5) (Nat.le_of_ble_eq_true rfl) rfl (Nat.le_of_ble_eq_true rfl) (Nat.le_of_ble_eq_true rfl) rfl rfl ?_
  refine P0.b GX11_witness 1 (ob := []) (cf' := (if (if 0 ≤ kind ∧ kind ≤ 5 then 1 else 0) = 0 then 36 else 12, [some (.ref 0), some (.int kind), some (.int number), some (.int saw)], [], hC g z w a b)) rfl trivial ?_
  rw [if_pos (show 0 ≤ kind ∧ kind ≤ 5 from h.1), if_neg (by decide)]
  refine P0.b GX11_witness 4 (ob := []) (cf' := (18, [some (.ref 0), some (.int kind), some (.int number), some (.int saw)], [.long 9, .long 0, .long number.toInt64], hC g z w a b)) rfl trivial ?_
  refine P0.cr (io := []) (as := [.long number.toInt64, .long ((0 : Int32).toInt64), .long ((9 : Int32).toInt64)]) (rest := []) (hc := []) (hc1 := []) (r1 := some (.int (if 0 ≤ number ∧ number ≤ 9 then 1 else 0))) (st' := [.int (if 0 ≤ number ∧ number ≤ 9 then 1 else 0)]) (h' := hC g z w a b) (d0 := 0) GX11_in kX11_witness_18 rfl rfl (Nat.le_of_ble_eq_true rfl) (Nat.le_of_ble_eq_true rfl) rfl trivial (e_in32 number 0 9) (Nat.le_of_ble_eq_true rfl) rfl (Nat.le_of_ble_eq_true rfl) (Nat.le_of_ble_eq_true rfl) rfl rfl ?_
  refine P0.b GX11_witness 1 (ob := []) (cf' := (if (if 0 ≤ number ∧ number ≤ 9 then 1 else 0) = 0 then 36 else 24, [some (.ref 0), some (.int kind), some (.int number), some (.int saw)], [], hC g z w a b)) rfl trivial ?_
  rw [if_pos (show 0 ≤ number ∧ number ≤ 9 from h.2.1), if_neg (by decide)]
  refine P0.b GX11_witness 4 (ob := []) (cf' := (30, [some (.ref 0), some (.int kind), some (.int number), some (.int saw)], [.long 63, .long 0, .long saw.toInt64], hC g z w a b)) rfl trivial ?_
  refine P0.cr (io := []) (as := [.long saw.toInt64, .long ((0 : Int32).toInt64), .long ((63 : Int32).toInt64)]) (rest := []) (hc := []) (hc1 := []) (r1 := some (.int (if 0 ≤ saw ∧ saw ≤ 63 then 1 else 0))) (st' := [.int (if 0 ≤ saw ∧ saw ≤ 63 then 1 else 0)]) (h' := hC g z w a b) (d0 := 0) GX11_in kX11_witness_30 rfl rfl (Nat.le_of_ble_eq_true rfl) (Nat.le_of_ble_eq_true rfl) rfl trivial (e_in32 saw 0 63) (Nat.le_of_ble_eq_true rfl) rfl (Nat.le_of_ble_eq_true rfl) (Nat.le_of_ble_eq_true rfl) rfl rfl ?_
  refine P0.b GX11_witness 1 (ob := []) (cf' := (if (if 0 ≤ saw ∧ saw ≤ 63 then 1 else 0) = 0 then 36 else 39, [some (.ref 0), some (.int kind), some (.int number), some (.int saw)], [], hC g z w a b)) rfl trivial ?_
  rw [if_pos (show 0 ≤ saw ∧ saw ≤ 63 from h.2.2), if_neg (by decide)]
  refine P0.b GX11_witness 4 (ob := []) (cf' := (if g 11 = 6 then 48 else 51, [some (.ref 0), some (.int kind), some (.int number), some (.int saw)], [], hC g z w a b)) rfl trivial ?_
  rw [if_pos (show g 11 = 6 from hf)]
  refine P0.b GX11_witness 1 (ob := []) (cf' := (50, [some (.ref 0), some (.int kind), some (.int number), some (.int saw)], [.int (-4)], hC g z w a b)) rfl trivial ?_
  exact P0.ri (by decide +kernel) rfl rfl ⟨rfl, rfl⟩
theorem row_in0 {i : Nat} (hi : i < 6) : vp_in (3 * nI i) 18 := by
  have := row_in (j := 0) hi (by decide)
  rw [nI_0, Int32.add_zero] at this
  exact this
theorem vp0 {n : Nat} (h : 0 < n) (hn : n < 2 ^ 31) : vp_in 0 n := nI_vp (i := 0) h hn
theorem w_m1 (m : Nat) : nI m + 1 - 1 = nI m := by rw [Int32.add_sub_cancel]
theorem upd_self {f : Nat → Int32} {k : Nat} {x : Int32} (h : f k = x) : upd f k x = f := by
  funext j
  unfold upd
  split
  · next e => rw [e, h]
  · rfl
theorem upd_two {f : Nat → Int32} {k : Nat} {x y : Int32} : upd (upd f k x) k y = upd f k y := by
  funext j
  unfold upd
  split <;> rfl
theorem ix_m {m j : Nat} (h : m ≤ 6) (hj : j < 3) : (3 * nI m + nI j).toNatClampNeg = 3 * m + j := by
  rw [show (3 : Int32) * nI m = nI (3 * m) from pk_mul 3 m, nI_add]
  exact nI_clamp (by omega)
theorem ix_m0 {m : Nat} (h : m ≤ 6) : (3 * nI m).toNatClampNeg = 3 * m := by
  rw [show (3 : Int32) * nI m = nI (3 * m) from pk_mul 3 m]
  exact nI_clamp (by omega)
set_option maxHeartbeats 1000000 in
theorem witness_yes {g z : Nat → Int32} {w : Int64} {a b : Nat → Nat → Int32} (kind number saw : Int32) (h : (0 ≤ kind ∧ kind ≤ 5) ∧ (0 ≤ number ∧ number ≤ 9) ∧ (0 ≤ saw ∧ saw ≤ 63)) {m : Nat} (hm : g 11 = nI m) (hm6 : m < 6) : P0 1 0 0 mX11_witness (0, ent 4 [.ref 0, .int kind, .int number, .int saw], [], hC g z w a b) (fun r h' => r = some (.int (nI m)) ∧ h' = hC (upd g 11 (nI m + 1)) z w (up2 (up2 a 5 (upd (a 5) m kind)) 6 (upd (upd (upd (a 6) (3 * m) number) (3 * m + 1) saw) (3 * m + 2) 0)) b) := by
  refine P0.b GX11_witness 4 (ob := []) (cf' := (6, [some (.ref 0), some (.int kind), some (.int number), some (.int saw)], [.long 5, .long 0, .long kind.toInt64], hC g z w a b)) rfl trivial ?_
  refine P0.cr (io := []) (as := [.long kind.toInt64, .long ((0 : Int32).toInt64), .long ((5 : Int32).toInt64)]) (rest := []) (hc := []) (hc1 := []) (r1 := some (.int (if 0 ≤ kind ∧ kind ≤ 5 then 1 else 0))) (st' := [.int (if 0 ≤ kind ∧ kind ≤ 5 then 1 else 0)]) (h' := hC g z w a b) (d0 := 0) GX11_in kX11_witness_6 rfl rfl (Nat.le_of_ble_eq_true rfl) (Nat.le_of_ble_eq_true rfl) rfl trivial (e_in32 kind 0 5) (Nat.le_of_ble_eq_true rfl) rfl (Nat.le_of_ble_eq_true rfl) (Nat.le_of_ble_eq_true rfl) rfl rfl ?_
  refine P0.b GX11_witness 1 (ob := []) (cf' := (if (if 0 ≤ kind ∧ kind ≤ 5 then 1 else 0) = 0 then 36 else 12, [some (.ref 0), some (.int kind), some (.int number), some (.int saw)], [], hC g z w a b)) rfl trivial ?_
  rw [if_pos (show 0 ≤ kind ∧ kind ≤ 5 from h.1), if_neg (by decide)]
  refine P0.b GX11_witness 4 (ob := []) (cf' := (18, [some (.ref 0), some (.int kind), some (.int number), some (.int saw)], [.long 9, .long 0, .long number.toInt64], hC g z w a b)) rfl trivial ?_
  refine P0.cr (io := []) (as := [.long number.toInt64, .long ((0 : Int32).toInt64), .long ((9 : Int32).toInt64)]) (rest := []) (hc := []) (hc1 := []) (r1 := some (.int (if 0 ≤ number ∧ number ≤ 9 then 1 else 0))) (st' := [.int (if 0 ≤ number ∧ number ≤ 9 then 1 else 0)]) (h' := hC g z w a b) (d0 := 0) GX11_in kX11_witness_18 rfl rfl (Nat.le_of_ble_eq_true rfl) (Nat.le_of_ble_eq_true rfl) rfl trivial (e_in32 number 0 9) (Nat.le_of_ble_eq_true rfl) rfl (Nat.le_of_ble_eq_true rfl) (Nat.le_of_ble_eq_true rfl) rfl rfl ?_
  refine P0.b GX11_witness 1 (ob := []) (cf' := (if (if 0 ≤ number ∧ number ≤ 9 then 1 else 0) = 0 then 36 else 24, [some (.ref 0), some (.int kind), some (.int number), some (.int saw)], [], hC g z w a b)) rfl trivial ?_
  rw [if_pos (show 0 ≤ number ∧ number ≤ 9 from h.2.1), if_neg (by decide)]
  refine P0.b GX11_witness 4 (ob := []) (cf' := (30, [some (.ref 0), some (.int kind), some (.int number), some (.int saw)], [.long 63, .long 0, .long saw.toInt64], hC g z w a b)) rfl trivial ?_
  refine P0.cr (io := []) (as := [.long saw.toInt64, .long ((0 : Int32).toInt64), .long ((63 : Int32).toInt64)]) (rest := []) (hc := []) (hc1 := []) (r1 := some (.int (if 0 ≤ saw ∧ saw ≤ 63 then 1 else 0))) (st' := [.int (if 0 ≤ saw ∧ saw ≤ 63 then 1 else 0)]) (h' := hC g z w a b) (d0 := 0) GX11_in kX11_witness_30 rfl rfl (Nat.le_of_ble_eq_true rfl) (Nat.le_of_ble_eq_true rfl) rfl trivial (e_in32 saw 0 63) (Nat.le_of_ble_eq_true rfl) rfl (Nat.le_of_ble_eq_true rfl) (Nat.le_of_ble_eq_true rfl) rfl rfl ?_
  refine P0.b GX11_witness 1 (ob := []) (cf' := (if (if 0 ≤ saw ∧ saw ≤ 63 then 1 else 0) = 0 then 36 else 39, [some (.ref 0), some (.int kind), some (.int number), some (.int saw)], [], hC g z w a b)) rfl trivial ?_
  rw [if_pos (show 0 ≤ saw ∧ saw ≤ 63 from h.2.2), if_neg (by decide)]
  refine P0.b GX11_witness 4 (ob := []) (cf' := (if g 11 = 6 then 48 else 51, [some (.ref 0), some (.int kind), some (.int number), some (.int saw)], [], hC g z w a b)) rfl trivial ?_
  rw [show g 11 = nI m from hm]
  rw [if_neg (show ¬ (nI m = 6) from by rw [show (6 : Int32) = nI 6 from rfl, nI_eq (by omega) (by omega)]; omega)]
  refine P0.b GX11_witness 6 (ob := [vp_in (g 11) 6]) (cf' := (61, [some (.ref 0), some (.int kind), some (.int number), some (.int saw)], [], hC g z w (up2 a 5 (upd (a 5) (g 11).toNatClampNeg kind)) b)) rfl ⟨(by rw [hm]; exact nI_vp hm6 (by decide)), trivial⟩ ?_
  rw [show g 11 = nI m from hm]
  rw [show (nI m).toNatClampNeg = m from nI_clamp (by omega)]
  refine P0.b GX11_witness 8 (ob := [vp_in (3 * (g 11)) 18]) (cf' := (73, [some (.ref 0), some (.int kind), some (.int number), some (.int saw)], [], hC g z w (up2 (up2 a 5 (upd (a 5) m kind)) 6 (upd (a 6) (3 * (g 11)).toNatClampNeg number)) b)) rfl ⟨(by rw [hm]; exact row_in0 hm6), trivial⟩ ?_
  rw [show g 11 = nI m from hm]
  rw [show (3 * (nI m)).toNatClampNeg = (3 * m) from ix_m0 (by omega)]
  refine P0.b GX11_witness 10 (ob := [vp_in ((3 * (g 11)) + 1) 18]) (cf' := (87, [some (.ref 0), some (.int kind), some (.int number), some (.int saw)], [], hC g z w (up2 (up2 a 5 (upd (a 5) m kind)) 6 (upd (upd (a 6) (3 * m) number) ((3 * (g 11)) + 1).toNatClampNeg saw)) b)) rfl ⟨(by rw [hm]; exact row_in (j := 1) hm6 (by decide)), trivial⟩ ?_
  rw [show g 11 = nI m from hm]
  rw [show ((3 * (nI m)) + 1).toNatClampNeg = (3 * m + 1) from ix_m (j := 1) (by omega) (by omega)]
  refine P0.b GX11_witness 10 (ob := [vp_in ((3 * (g 11)) + 2) 18]) (cf' := (101, [some (.ref 0), some (.int kind), some (.int number), some (.int saw)], [], hC g z w (up2 (up2 a 5 (upd (a 5) m kind)) 6 (upd (upd (upd (a 6) (3 * m) number) (3 * m + 1) saw) ((3 * (g 11)) + 2).toNatClampNeg 0)) b)) rfl ⟨(by rw [hm]; exact row_in (j := 2) hm6 (by decide)), trivial⟩ ?_
  rw [show g 11 = nI m from hm]
  rw [show ((3 * (nI m)) + 2).toNatClampNeg = (3 * m + 2) from ix_m (j := 2) (by omega) (by omega)]
  refine P0.b GX11_witness 6 (ob := []) (cf' := (111, [some (.ref 0), some (.int kind), some (.int number), some (.int saw)], [], hC (upd g 11 ((g 11) + 1)) z w (up2 (up2 a 5 (upd (a 5) m kind)) 6 (upd (upd (upd (a 6) (3 * m) number) (3 * m + 1) saw) (3 * m + 2) 0)) b)) rfl trivial ?_
  rw [show g 11 = nI m from hm]
  refine P0.b GX11_witness 4 (ob := []) (cf' := (117, [some (.ref 0), some (.int kind), some (.int number), some (.int saw)], [.int (((nI m) + 1) - 1)], hC (upd g 11 ((nI m) + 1)) z w (up2 (up2 a 5 (upd (a 5) m kind)) 6 (upd (upd (upd (a 6) (3 * m) number) (3 * m + 1) saw) (3 * m + 2) 0)) b)) rfl trivial ?_
  exact P0.ri (by decide +kernel) rfl rfl ⟨(by rw [w_m1]), rfl⟩
set_option maxHeartbeats 1000000 in
theorem force_no {g z : Nat → Int32} {w : Int64} {a b : Nat → Nat → Int32} (x : Int32) (h : ¬ (0 ≤ x ∧ x ≤ g 3 - 1)) : P0 1 0 0 mX11_force (0, ent 3 [.ref 0, .int x], [], hC g z w a b) (fun r h' => r = some (.int (-2)) ∧ h' = hC g z w a b) := by
  refine P0.b GX11_force 8 (ob := []) (cf' := (10, [some (.ref 0), some (.int x), none], [.long (((g 3) - 1).toInt64), .long 0, .long x.toInt64], hC g z w a b)) rfl trivial ?_
  refine P0.cr (io := []) (as := [.long x.toInt64, .long ((0 : Int32).toInt64), .long (((g 3) - 1).toInt64)]) (rest := []) (hc := []) (hc1 := []) (r1 := some (.int (if 0 ≤ x ∧ x ≤ (g 3) - 1 then 1 else 0))) (st' := [.int (if 0 ≤ x ∧ x ≤ (g 3) - 1 then 1 else 0)]) (h' := hC g z w a b) (d0 := 0) GX11_in kX11_force_10 rfl rfl (Nat.le_of_ble_eq_true rfl) (Nat.le_of_ble_eq_true rfl) rfl trivial (e_in32 x 0 ((g 3) - 1)) (Nat.le_of_ble_eq_true rfl) rfl (Nat.le_of_ble_eq_true rfl) (Nat.le_of_ble_eq_true rfl) rfl rfl ?_
  refine P0.b GX11_force 1 (ob := []) (cf' := (if (if 0 ≤ x ∧ x ≤ (g 3) - 1 then 1 else 0) = 0 then 16 else 19, [some (.ref 0), some (.int x), none], [], hC g z w a b)) rfl trivial ?_
  rw [if_neg (show ¬ (0 ≤ x ∧ x ≤ (g 3) - 1) from h), if_pos rfl]
  refine P0.b GX11_force 1 (ob := []) (cf' := (18, [some (.ref 0), some (.int x), none], [.int (-2)], hC g z w a b)) rfl trivial ?_
  exact P0.ri (by decide +kernel) rfl rfl ⟨rfl, rfl⟩
set_option maxHeartbeats 1000000 in
theorem force_yes {g z : Nat → Int32} {w : Int64} {a b : Nat → Nat → Int32} (x : Int32) (h : 0 ≤ x ∧ x ≤ g 3 - 1) : P0 1 0 0 mX11_force (0, ent 3 [.ref 0, .int x], [], hC g z w a b) (fun r h' => r = some (.int (g 4)) ∧ h' = hC (upd g 4 x) z w a b) := by
  refine P0.b GX11_force 8 (ob := []) (cf' := (10, [some (.ref 0), some (.int x), none], [.long (((g 3) - 1).toInt64), .long 0, .long x.toInt64], hC g z w a b)) rfl trivial ?_
  refine P0.cr (io := []) (as := [.long x.toInt64, .long ((0 : Int32).toInt64), .long (((g 3) - 1).toInt64)]) (rest := []) (hc := []) (hc1 := []) (r1 := some (.int (if 0 ≤ x ∧ x ≤ (g 3) - 1 then 1 else 0))) (st' := [.int (if 0 ≤ x ∧ x ≤ (g 3) - 1 then 1 else 0)]) (h' := hC g z w a b) (d0 := 0) GX11_in kX11_force_10 rfl rfl (Nat.le_of_ble_eq_true rfl) (Nat.le_of_ble_eq_true rfl) rfl trivial (e_in32 x 0 ((g 3) - 1)) (Nat.le_of_ble_eq_true rfl) rfl (Nat.le_of_ble_eq_true rfl) (Nat.le_of_ble_eq_true rfl) rfl rfl ?_
  refine P0.b GX11_force 1 (ob := []) (cf' := (if (if 0 ≤ x ∧ x ≤ (g 3) - 1 then 1 else 0) = 0 then 16 else 19, [some (.ref 0), some (.int x), none], [], hC g z w a b)) rfl trivial ?_
  rw [if_pos (show 0 ≤ x ∧ x ≤ (g 3) - 1 from h), if_neg (by decide)]
  refine P0.b GX11_force 6 (ob := []) (cf' := (29, [some (.ref 0), some (.int x), some (.int (g 4))], [], hC (upd g 4 x) z w a b)) rfl trivial ?_
  refine P0.b GX11_force 1 (ob := []) (cf' := (30, [some (.ref 0), some (.int x), some (.int (g 4))], [.int (g 4)], hC (upd g 4 x) z w a b)) rfl trivial ?_
  exact P0.ri (by decide +kernel) rfl rfl ⟨rfl, rfl⟩
set_option maxHeartbeats 1000000 in
theorem count_0 {g z : Nat → Int32} {w : Int64} {a b : Nat → Nat → Int32} {m : Nat} (hm : g 11 = nI m) (hm6 : m ≤ 6) (h1 : ∃ v, v < 64 ∧ sentV (a 6) m = nI v) : P0 1 0 0 mX11_count (0, ent 2 [.ref 0, .int 0], [], hC g z w a b) (fun r h' => r = some (.int (g 11)) ∧ h' = hC g z w a b) := by
  refine P0.b GX11_count 4 (ob := []) (cf' := (6, [some (.ref 0), some (.int 0)], [.long 4, .long 0, .long ((0 : Int32).toInt64)], hC g z w a b)) rfl trivial ?_
  refine P0.cr (io := []) (as := [.long ((0 : Int32).toInt64), .long ((0 : Int32).toInt64), .long ((4 : Int32).toInt64)]) (rest := []) (hc := []) (hc1 := []) (r1 := some (.int 1)) (st' := [.int 1]) (h' := hC g z w a b) (d0 := 0) GX11_in kX11_count_6 rfl rfl (Nat.le_of_ble_eq_true rfl) (Nat.le_of_ble_eq_true rfl) rfl trivial (in_yes (v := (0 : Int32)) (lo := (0 : Int32)) (hi := (4 : Int32)) (by decide)) (Nat.le_of_ble_eq_true rfl) rfl (Nat.le_of_ble_eq_true rfl) (Nat.le_of_ble_eq_true rfl) rfl rfl ?_
  refine P0.b GX11_count 1 (ob := []) (cf' := (if (1 : Int32) = 0 then 12 else 15, [some (.ref 0), some (.int 0)], [], hC g z w a b)) rfl trivial ?_
  rw [if_neg (show ¬ ((1 : Int32) = 0) from by decide)]
  refine P0.b GX11_count 2 (ob := []) (cf' := (if (0 : Int32) = 0 then 19 else 26, [some (.ref 0), some (.int 0)], [], hC g z w a b)) rfl trivial ?_
  rw [if_pos (show ((0 : Int32) = 0) from by decide)]
  refine P0.b GX11_count 3 (ob := []) (cf' := (69, [some (.ref 0), some (.int 0)], [.int (g 11)], hC g z w a b)) rfl trivial ?_
  exact P0.ri (by decide +kernel) rfl rfl ⟨rfl, rfl⟩
set_option maxHeartbeats 1000000 in
theorem count_1 {g z : Nat → Int32} {w : Int64} {a b : Nat → Nat → Int32} {m : Nat} (hm : g 11 = nI m) (hm6 : m ≤ 6) (h1 : zz 7 (sentV (a 6) m) = true) : P0 1 0 0 mX11_count (0, ent 2 [.ref 0, .int 1], [], hC g z w a b) (fun r h' => r = some (.int (kb 7 (sentV (a 6) m))) ∧ h' = hC g z w a b) := by
  refine P0.b GX11_count 4 (ob := []) (cf' := (6, [some (.ref 0), some (.int 1)], [.long 4, .long 0, .long ((1 : Int32).toInt64)], hC g z w a b)) rfl trivial ?_
  refine P0.cr (io := []) (as := [.long ((1 : Int32).toInt64), .long ((0 : Int32).toInt64), .long ((4 : Int32).toInt64)]) (rest := []) (hc := []) (hc1 := []) (r1 := some (.int 1)) (st' := [.int 1]) (h' := hC g z w a b) (d0 := 0) GX11_in kX11_count_6 rfl rfl (Nat.le_of_ble_eq_true rfl) (Nat.le_of_ble_eq_true rfl) rfl trivial (in_yes (v := (1 : Int32)) (lo := (0 : Int32)) (hi := (4 : Int32)) (by decide)) (Nat.le_of_ble_eq_true rfl) rfl (Nat.le_of_ble_eq_true rfl) (Nat.le_of_ble_eq_true rfl) rfl rfl ?_
  refine P0.b GX11_count 1 (ob := []) (cf' := (if (1 : Int32) = 0 then 12 else 15, [some (.ref 0), some (.int 1)], [], hC g z w a b)) rfl trivial ?_
  rw [if_neg (show ¬ ((1 : Int32) = 0) from by decide)]
  refine P0.b GX11_count 2 (ob := []) (cf' := (if (1 : Int32) = 0 then 19 else 26, [some (.ref 0), some (.int 1)], [], hC g z w a b)) rfl trivial ?_
  rw [if_neg (show ¬ ((1 : Int32) = 0) from by decide)]
  refine P0.b GX11_count 3 (ob := []) (cf' := (if (1 : Int32) = 1 then 31 else 41, [some (.ref 0), some (.int 1)], [], hC g z w a b)) rfl trivial ?_
  rw [if_pos (show ((1 : Int32) = 1) from by decide)]
  refine P0.b GX11_count 1 (ob := []) (cf' := (32, [some (.ref 0), some (.int 1)], [.ref 0], hC g z w a b)) rfl trivial ?_
  refine P0.cd (d0 := 0) (as := [.ref 0]) (rest := []) (r1 := some (.int (sentV (a 6) m))) (h1 := hC g z w a b) (st' := [.int (sentV (a 6) m)]) GX11_sentSet kX11_count_32 rfl ⟨_, _, rfl, rfl, .inl ⟨_, _, _, _, rfl, rfl⟩⟩ (Nat.le_of_ble_eq_true rfl) (Nat.le_of_ble_eq_true rfl) (e_X11_sentSet hm hm6) (Nat.le_of_ble_eq_true rfl) rfl (Nat.le_of_ble_eq_true rfl) rfl ?_
  refine P0.cr (io := []) (as := [.int (sentV (a 6) m)]) (rest := []) (hc := []) (hc1 := []) (r1 := some (.int (kb 7 (sentV (a 6) m)))) (st' := [.int (kb 7 (sentV (a 6) m))]) (h' := hC g z w a b) (d0 := 0) GX11_bitsOf kX11_count_35 rfl rfl (Nat.le_of_ble_eq_true rfl) (Nat.le_of_ble_eq_true rfl) rfl trivial (e_X11_bitsOf h1) (Nat.zero_le _) rfl (Nat.le_of_ble_eq_true rfl) (Nat.le_of_ble_eq_true rfl) rfl rfl ?_
  refine P0.b GX11_count 1 (ob := []) (cf' := (69, [some (.ref 0), some (.int 1)], [.int (kb 7 (sentV (a 6) m))], hC g z w a b)) rfl trivial ?_
  exact P0.ri (by decide +kernel) rfl rfl ⟨rfl, rfl⟩
set_option maxHeartbeats 1000000 in
theorem count_2 {g z : Nat → Int32} {w : Int64} {a b : Nat → Nat → Int32} {m : Nat} (hm : g 11 = nI m) (hm6 : m ≤ 6) (h1 : ∃ v, v < 64 ∧ sentV (a 6) m = nI v) : P0 1 0 0 mX11_count (0, ent 2 [.ref 0, .int 2], [], hC g z w a b) (fun r h' => r = some (.int (g 3)) ∧ h' = hC g z w a b) := by
  refine P0.b GX11_count 4 (ob := []) (cf' := (6, [some (.ref 0), some (.int 2)], [.long 4, .long 0, .long ((2 : Int32).toInt64)], hC g z w a b)) rfl trivial ?_
  refine P0.cr (io := []) (as := [.long ((2 : Int32).toInt64), .long ((0 : Int32).toInt64), .long ((4 : Int32).toInt64)]) (rest := []) (hc := []) (hc1 := []) (r1 := some (.int 1)) (st' := [.int 1]) (h' := hC g z w a b) (d0 := 0) GX11_in kX11_count_6 rfl rfl (Nat.le_of_ble_eq_true rfl) (Nat.le_of_ble_eq_true rfl) rfl trivial (in_yes (v := (2 : Int32)) (lo := (0 : Int32)) (hi := (4 : Int32)) (by decide)) (Nat.le_of_ble_eq_true rfl) rfl (Nat.le_of_ble_eq_true rfl) (Nat.le_of_ble_eq_true rfl) rfl rfl ?_
  refine P0.b GX11_count 1 (ob := []) (cf' := (if (1 : Int32) = 0 then 12 else 15, [some (.ref 0), some (.int 2)], [], hC g z w a b)) rfl trivial ?_
  rw [if_neg (show ¬ ((1 : Int32) = 0) from by decide)]
  refine P0.b GX11_count 2 (ob := []) (cf' := (if (2 : Int32) = 0 then 19 else 26, [some (.ref 0), some (.int 2)], [], hC g z w a b)) rfl trivial ?_
  rw [if_neg (show ¬ ((2 : Int32) = 0) from by decide)]
  refine P0.b GX11_count 3 (ob := []) (cf' := (if (2 : Int32) = 1 then 31 else 41, [some (.ref 0), some (.int 2)], [], hC g z w a b)) rfl trivial ?_
  rw [if_neg (show ¬ ((2 : Int32) = 1) from by decide)]
  refine P0.b GX11_count 3 (ob := []) (cf' := (if (2 : Int32) = 2 then 46 else 53, [some (.ref 0), some (.int 2)], [], hC g z w a b)) rfl trivial ?_
  rw [if_pos (show ((2 : Int32) = 2) from by decide)]
  refine P0.b GX11_count 3 (ob := []) (cf' := (69, [some (.ref 0), some (.int 2)], [.int (g 3)], hC g z w a b)) rfl trivial ?_
  exact P0.ri (by decide +kernel) rfl rfl ⟨rfl, rfl⟩
set_option maxHeartbeats 1000000 in
theorem count_3 {g z : Nat → Int32} {w : Int64} {a b : Nat → Nat → Int32} {m : Nat} (hm : g 11 = nI m) (hm6 : m ≤ 6) (h1 : ∃ v, v < 64 ∧ sentV (a 6) m = nI v) : P0 1 0 0 mX11_count (0, ent 2 [.ref 0, .int 3], [], hC g z w a b) (fun r h' => r = some (.int (g 6)) ∧ h' = hC g z w a b) := by
  refine P0.b GX11_count 4 (ob := []) (cf' := (6, [some (.ref 0), some (.int 3)], [.long 4, .long 0, .long ((3 : Int32).toInt64)], hC g z w a b)) rfl trivial ?_
  refine P0.cr (io := []) (as := [.long ((3 : Int32).toInt64), .long ((0 : Int32).toInt64), .long ((4 : Int32).toInt64)]) (rest := []) (hc := []) (hc1 := []) (r1 := some (.int 1)) (st' := [.int 1]) (h' := hC g z w a b) (d0 := 0) GX11_in kX11_count_6 rfl rfl (Nat.le_of_ble_eq_true rfl) (Nat.le_of_ble_eq_true rfl) rfl trivial (in_yes (v := (3 : Int32)) (lo := (0 : Int32)) (hi := (4 : Int32)) (by decide)) (Nat.le_of_ble_eq_true rfl) rfl (Nat.le_of_ble_eq_true rfl) (Nat.le_of_ble_eq_true rfl) rfl rfl ?_
  refine P0.b GX11_count 1 (ob := []) (cf' := (if (1 : Int32) = 0 then 12 else 15, [some (.ref 0), some (.int 3)], [], hC g z w a b)) rfl trivial ?_
  rw [if_neg (show ¬ ((1 : Int32) = 0) from by decide)]
  refine P0.b GX11_count 2 (ob := []) (cf' := (if (3 : Int32) = 0 then 19 else 26, [some (.ref 0), some (.int 3)], [], hC g z w a b)) rfl trivial ?_
  rw [if_neg (show ¬ ((3 : Int32) = 0) from by decide)]
  refine P0.b GX11_count 3 (ob := []) (cf' := (if (3 : Int32) = 1 then 31 else 41, [some (.ref 0), some (.int 3)], [], hC g z w a b)) rfl trivial ?_
  rw [if_neg (show ¬ ((3 : Int32) = 1) from by decide)]
  refine P0.b GX11_count 3 (ob := []) (cf' := (if (3 : Int32) = 2 then 46 else 53, [some (.ref 0), some (.int 3)], [], hC g z w a b)) rfl trivial ?_
  rw [if_neg (show ¬ ((3 : Int32) = 2) from by decide)]
  refine P0.b GX11_count 3 (ob := []) (cf' := (if (3 : Int32) = 3 then 58 else 65, [some (.ref 0), some (.int 3)], [], hC g z w a b)) rfl trivial ?_
  rw [if_pos (show ((3 : Int32) = 3) from by decide)]
  refine P0.b GX11_count 3 (ob := []) (cf' := (69, [some (.ref 0), some (.int 3)], [.int (g 6)], hC g z w a b)) rfl trivial ?_
  exact P0.ri (by decide +kernel) rfl rfl ⟨rfl, rfl⟩
set_option maxHeartbeats 1000000 in
theorem count_4 {g z : Nat → Int32} {w : Int64} {a b : Nat → Nat → Int32} {m : Nat} (hm : g 11 = nI m) (hm6 : m ≤ 6) (h1 : ∃ v, v < 64 ∧ sentV (a 6) m = nI v) : P0 1 0 0 mX11_count (0, ent 2 [.ref 0, .int 4], [], hC g z w a b) (fun r h' => r = some (.int (g 4)) ∧ h' = hC g z w a b) := by
  refine P0.b GX11_count 4 (ob := []) (cf' := (6, [some (.ref 0), some (.int 4)], [.long 4, .long 0, .long ((4 : Int32).toInt64)], hC g z w a b)) rfl trivial ?_
  refine P0.cr (io := []) (as := [.long ((4 : Int32).toInt64), .long ((0 : Int32).toInt64), .long ((4 : Int32).toInt64)]) (rest := []) (hc := []) (hc1 := []) (r1 := some (.int 1)) (st' := [.int 1]) (h' := hC g z w a b) (d0 := 0) GX11_in kX11_count_6 rfl rfl (Nat.le_of_ble_eq_true rfl) (Nat.le_of_ble_eq_true rfl) rfl trivial (in_yes (v := (4 : Int32)) (lo := (0 : Int32)) (hi := (4 : Int32)) (by decide)) (Nat.le_of_ble_eq_true rfl) rfl (Nat.le_of_ble_eq_true rfl) (Nat.le_of_ble_eq_true rfl) rfl rfl ?_
  refine P0.b GX11_count 1 (ob := []) (cf' := (if (1 : Int32) = 0 then 12 else 15, [some (.ref 0), some (.int 4)], [], hC g z w a b)) rfl trivial ?_
  rw [if_neg (show ¬ ((1 : Int32) = 0) from by decide)]
  refine P0.b GX11_count 2 (ob := []) (cf' := (if (4 : Int32) = 0 then 19 else 26, [some (.ref 0), some (.int 4)], [], hC g z w a b)) rfl trivial ?_
  rw [if_neg (show ¬ ((4 : Int32) = 0) from by decide)]
  refine P0.b GX11_count 3 (ob := []) (cf' := (if (4 : Int32) = 1 then 31 else 41, [some (.ref 0), some (.int 4)], [], hC g z w a b)) rfl trivial ?_
  rw [if_neg (show ¬ ((4 : Int32) = 1) from by decide)]
  refine P0.b GX11_count 3 (ob := []) (cf' := (if (4 : Int32) = 2 then 46 else 53, [some (.ref 0), some (.int 4)], [], hC g z w a b)) rfl trivial ?_
  rw [if_neg (show ¬ ((4 : Int32) = 2) from by decide)]
  refine P0.b GX11_count 3 (ob := []) (cf' := (if (4 : Int32) = 3 then 58 else 65, [some (.ref 0), some (.int 4)], [], hC g z w a b)) rfl trivial ?_
  rw [if_neg (show ¬ ((4 : Int32) = 3) from by decide)]
  refine P0.b GX11_count 2 (ob := []) (cf' := (69, [some (.ref 0), some (.int 4)], [.int (g 4)], hC g z w a b)) rfl trivial ?_
  exact P0.ri (by decide +kernel) rfl rfl ⟨rfl, rfl⟩
set_option maxHeartbeats 1000000 in
theorem count_no {g z : Nat → Int32} {w : Int64} {a b : Nat → Nat → Int32} (x : Int32) (h : ¬ (0 ≤ x ∧ x ≤ 4)) : P0 1 0 0 mX11_count (0, ent 2 [.ref 0, .int x], [], hC g z w a b) (fun r h' => r = some (.int (-2)) ∧ h' = hC g z w a b) := by
  refine P0.b GX11_count 4 (ob := []) (cf' := (6, [some (.ref 0), some (.int x)], [.long 4, .long 0, .long x.toInt64], hC g z w a b)) rfl trivial ?_
  refine P0.cr (io := []) (as := [.long x.toInt64, .long ((0 : Int32).toInt64), .long ((4 : Int32).toInt64)]) (rest := []) (hc := []) (hc1 := []) (r1 := some (.int (if 0 ≤ x ∧ x ≤ 4 then 1 else 0))) (st' := [.int (if 0 ≤ x ∧ x ≤ 4 then 1 else 0)]) (h' := hC g z w a b) (d0 := 0) GX11_in kX11_count_6 rfl rfl (Nat.le_of_ble_eq_true rfl) (Nat.le_of_ble_eq_true rfl) rfl trivial (e_in32 x 0 4) (Nat.le_of_ble_eq_true rfl) rfl (Nat.le_of_ble_eq_true rfl) (Nat.le_of_ble_eq_true rfl) rfl rfl ?_
  refine P0.b GX11_count 1 (ob := []) (cf' := (if (if 0 ≤ x ∧ x ≤ 4 then 1 else 0) = 0 then 12 else 15, [some (.ref 0), some (.int x)], [], hC g z w a b)) rfl trivial ?_
  rw [if_neg (show ¬ (0 ≤ x ∧ x ≤ 4) from h), if_pos rfl]
  refine P0.b GX11_count 1 (ob := []) (cf' := (14, [some (.ref 0), some (.int x)], [.int (-2)], hC g z w a b)) rfl trivial ?_
  exact P0.ri (by decide +kernel) rfl rfl ⟨rfl, rfl⟩
set_option maxHeartbeats 1000000 in
theorem over_0  : P0 0 0 0 mX11_over (0, ent 1 [.int 0], [], []) (fun r h' => r = some (.int (-1)) ∧ h' = []) := by
  refine P0.b GX11_over 2 (ob := []) (cf' := (if (0 : Int32) = 0 then 4 else 8, [some (.int 0)], [], [])) rfl trivial ?_
  rw [if_pos (show ((0 : Int32) = 0) from by decide)]
  refine P0.b GX11_over 2 (ob := []) (cf' := (27, [some (.int 0)], [.int (-1)], [])) rfl trivial ?_
  exact P0.ri (by decide +kernel) rfl rfl ⟨rfl, rfl⟩
set_option maxHeartbeats 1000000 in
theorem over_1  : P0 0 0 0 mX11_over (0, ent 1 [.int 1], [], []) (fun r h' => r = some (.int 0) ∧ h' = []) := by
  refine P0.b GX11_over 2 (ob := []) (cf' := (if (1 : Int32) = 0 then 4 else 8, [some (.int 1)], [], [])) rfl trivial ?_
  rw [if_neg (show ¬ ((1 : Int32) = 0) from by decide)]
  refine P0.b GX11_over 3 (ob := []) (cf' := (if (1 : Int32) = 3 then 13 else 17, [some (.int 1)], [], [])) rfl trivial ?_
  rw [if_neg (show ¬ ((1 : Int32) = 3) from by decide)]
  refine P0.b GX11_over 3 (ob := []) (cf' := (if (1 : Int32) = 4 then 22 else 26, [some (.int 1)], [], [])) rfl trivial ?_
  rw [if_neg (show ¬ ((1 : Int32) = 4) from by decide)]
  refine P0.b GX11_over 1 (ob := []) (cf' := (27, [some (.int 1)], [.int 0], [])) rfl trivial ?_
  exact P0.ri (by decide +kernel) rfl rfl ⟨rfl, rfl⟩
set_option maxHeartbeats 1000000 in
theorem over_2  : P0 0 0 0 mX11_over (0, ent 1 [.int 2], [], []) (fun r h' => r = some (.int 0) ∧ h' = []) := by
  refine P0.b GX11_over 2 (ob := []) (cf' := (if (2 : Int32) = 0 then 4 else 8, [some (.int 2)], [], [])) rfl trivial ?_
  rw [if_neg (show ¬ ((2 : Int32) = 0) from by decide)]
  refine P0.b GX11_over 3 (ob := []) (cf' := (if (2 : Int32) = 3 then 13 else 17, [some (.int 2)], [], [])) rfl trivial ?_
  rw [if_neg (show ¬ ((2 : Int32) = 3) from by decide)]
  refine P0.b GX11_over 3 (ob := []) (cf' := (if (2 : Int32) = 4 then 22 else 26, [some (.int 2)], [], [])) rfl trivial ?_
  rw [if_neg (show ¬ ((2 : Int32) = 4) from by decide)]
  refine P0.b GX11_over 1 (ob := []) (cf' := (27, [some (.int 2)], [.int 0], [])) rfl trivial ?_
  exact P0.ri (by decide +kernel) rfl rfl ⟨rfl, rfl⟩
set_option maxHeartbeats 1000000 in
theorem over_3  : P0 0 0 0 mX11_over (0, ent 1 [.int 3], [], []) (fun r h' => r = some (.int 1) ∧ h' = []) := by
  refine P0.b GX11_over 2 (ob := []) (cf' := (if (3 : Int32) = 0 then 4 else 8, [some (.int 3)], [], [])) rfl trivial ?_
  rw [if_neg (show ¬ ((3 : Int32) = 0) from by decide)]
  refine P0.b GX11_over 3 (ob := []) (cf' := (if (3 : Int32) = 3 then 13 else 17, [some (.int 3)], [], [])) rfl trivial ?_
  rw [if_pos (show ((3 : Int32) = 3) from by decide)]
  refine P0.b GX11_over 2 (ob := []) (cf' := (27, [some (.int 3)], [.int 1], [])) rfl trivial ?_
  exact P0.ri (by decide +kernel) rfl rfl ⟨rfl, rfl⟩
set_option maxHeartbeats 1000000 in
theorem over_4  : P0 0 0 0 mX11_over (0, ent 1 [.int 4], [], []) (fun r h' => r = some (.int 2) ∧ h' = []) := by
  refine P0.b GX11_over 2 (ob := []) (cf' := (if (4 : Int32) = 0 then 4 else 8, [some (.int 4)], [], [])) rfl trivial ?_
  rw [if_neg (show ¬ ((4 : Int32) = 0) from by decide)]
  refine P0.b GX11_over 3 (ob := []) (cf' := (if (4 : Int32) = 3 then 13 else 17, [some (.int 4)], [], [])) rfl trivial ?_
  rw [if_neg (show ¬ ((4 : Int32) = 3) from by decide)]
  refine P0.b GX11_over 3 (ob := []) (cf' := (if (4 : Int32) = 4 then 22 else 26, [some (.int 4)], [], [])) rfl trivial ?_
  rw [if_pos (show ((4 : Int32) = 4) from by decide)]
  refine P0.b GX11_over 2 (ob := []) (cf' := (27, [some (.int 4)], [.int 2], [])) rfl trivial ?_
  exact P0.ri (by decide +kernel) rfl rfl ⟨rfl, rfl⟩
set_option maxHeartbeats 1000000 in
theorem over_5  : P0 0 0 0 mX11_over (0, ent 1 [.int 5], [], []) (fun r h' => r = some (.int 0) ∧ h' = []) := by
  refine P0.b GX11_over 2 (ob := []) (cf' := (if (5 : Int32) = 0 then 4 else 8, [some (.int 5)], [], [])) rfl trivial ?_
  rw [if_neg (show ¬ ((5 : Int32) = 0) from by decide)]
  refine P0.b GX11_over 3 (ob := []) (cf' := (if (5 : Int32) = 3 then 13 else 17, [some (.int 5)], [], [])) rfl trivial ?_
  rw [if_neg (show ¬ ((5 : Int32) = 3) from by decide)]
  refine P0.b GX11_over 3 (ob := []) (cf' := (if (5 : Int32) = 4 then 22 else 26, [some (.int 5)], [], [])) rfl trivial ?_
  rw [if_neg (show ¬ ((5 : Int32) = 4) from by decide)]
  refine P0.b GX11_over 1 (ob := []) (cf' := (27, [some (.int 5)], [.int 0], [])) rfl trivial ?_
  exact P0.ri (by decide +kernel) rfl rfl ⟨rfl, rfl⟩
set_option maxHeartbeats 1000000 in
theorem taken_k {g z : Nat → Int32} {w : Int64} {a b : Nat → Nat → Int32} (x k : Int32) (h : ¬ (0 ≤ k ∧ k ≤ 5)) : P0 2 0 0 mX11_taken (0, ent 4 [.ref 0, .int x, .int k], [], hC g z w a b) (fun r h' => r = some (.int (-2)) ∧ h' = hC g z w a b) := by
  refine P0.b GX11_taken 4 (ob := []) (cf' := (6, [some (.ref 0), some (.int x), some (.int k), none], [.long 5, .long 0, .long k.toInt64], hC g z w a b)) rfl trivial ?_
  refine P0.cr (io := []) (as := [.long k.toInt64, .long ((0 : Int32).toInt64), .long ((5 : Int32).toInt64)]) (rest := []) (hc := []) (hc1 := []) (r1 := some (.int (if 0 ≤ k ∧ k ≤ 5 then 1 else 0))) (st' := [.int (if 0 ≤ k ∧ k ≤ 5 then 1 else 0)]) (h' := hC g z w a b) (d0 := 0) GX11_in kX11_taken_6 rfl rfl (Nat.le_of_ble_eq_true rfl) (Nat.le_of_ble_eq_true rfl) rfl trivial (e_in32 k 0 5) (Nat.le_of_ble_eq_true rfl) rfl (Nat.le_of_ble_eq_true rfl) (Nat.le_of_ble_eq_true rfl) rfl rfl ?_
  refine P0.b GX11_taken 1 (ob := []) (cf' := (if (if 0 ≤ k ∧ k ≤ 5 then 1 else 0) = 0 then 12 else 15, [some (.ref 0), some (.int x), some (.int k), none], [], hC g z w a b)) rfl trivial ?_
  rw [if_neg (show ¬ (0 ≤ k ∧ k ≤ 5) from h), if_pos rfl]
  refine P0.b GX11_taken 1 (ob := []) (cf' := (14, [some (.ref 0), some (.int x), some (.int k), none], [.int (-2)], hC g z w a b)) rfl trivial ?_
  exact P0.ri (by decide +kernel) rfl rfl ⟨rfl, rfl⟩
set_option maxHeartbeats 1000000 in
theorem taken_x {g z : Nat → Int32} {w : Int64} {a b : Nat → Nat → Int32} (x k : Int32) (hk : 0 ≤ k ∧ k ≤ 5) (h : ¬ (0 ≤ x ∧ x ≤ g 11 - 1)) : P0 2 0 0 mX11_taken (0, ent 4 [.ref 0, .int x, .int k], [], hC g z w a b) (fun r h' => r = some (.int (-11)) ∧ h' = hC g z w a b) := by
  refine P0.b GX11_taken 4 (ob := []) (cf' := (6, [some (.ref 0), some (.int x), some (.int k), none], [.long 5, .long 0, .long k.toInt64], hC g z w a b)) rfl trivial ?_
  refine P0.cr (io := []) (as := [.long k.toInt64, .long ((0 : Int32).toInt64), .long ((5 : Int32).toInt64)]) (rest := []) (hc := []) (hc1 := []) (r1 := some (.int (if 0 ≤ k ∧ k ≤ 5 then 1 else 0))) (st' := [.int (if 0 ≤ k ∧ k ≤ 5 then 1 else 0)]) (h' := hC g z w a b) (d0 := 0) GX11_in kX11_taken_6 rfl rfl (Nat.le_of_ble_eq_true rfl) (Nat.le_of_ble_eq_true rfl) rfl trivial (e_in32 k 0 5) (Nat.le_of_ble_eq_true rfl) rfl (Nat.le_of_ble_eq_true rfl) (Nat.le_of_ble_eq_true rfl) rfl rfl ?_
  refine P0.b GX11_taken 1 (ob := []) (cf' := (if (if 0 ≤ k ∧ k ≤ 5 then 1 else 0) = 0 then 12 else 15, [some (.ref 0), some (.int x), some (.int k), none], [], hC g z w a b)) rfl trivial ?_
  rw [if_pos (show 0 ≤ k ∧ k ≤ 5 from hk), if_neg (by decide)]
  refine P0.b GX11_taken 2 (ob := []) (cf' := (17, [some (.ref 0), some (.int x), some (.int k), none], [.int x, .ref 0], hC g z w a b)) rfl trivial ?_
  refine P0.cd (d0 := 1) (as := [.ref 0, .int x]) (rest := []) (r1 := some (.int (if 0 ≤ x ∧ x ≤ g 11 - 1 then 1 else 0))) (h1 := hC g z w a b) (st' := [.int (if 0 ≤ x ∧ x ≤ g 11 - 1 then 1 else 0)]) GX11_isWitness kX11_taken_17 rfl ⟨_, _, rfl, rfl, .inl ⟨_, _, _, _, rfl, rfl⟩⟩ (Nat.le_of_ble_eq_true rfl) (Nat.le_of_ble_eq_true rfl) (e_X11_isWitness (g := mx g z) (w := w) (a := my a b) x) (Nat.le_of_ble_eq_true rfl) rfl (Nat.le_of_ble_eq_true rfl) rfl ?_
  refine P0.b GX11_taken 1 (ob := []) (cf' := (if (if 0 ≤ x ∧ x ≤ g 11 - 1 then 1 else 0) = 0 then 23 else 26, [some (.ref 0), some (.int x), some (.int k), none], [], hC g z w a b)) rfl trivial ?_
  rw [if_neg (show ¬ (0 ≤ x ∧ x ≤ g 11 - 1) from h), if_pos rfl]
  refine P0.b GX11_taken 1 (ob := []) (cf' := (25, [some (.ref 0), some (.int x), some (.int k), none], [.int (-11)], hC g z w a b)) rfl trivial ?_
  exact P0.ri (by decide +kernel) rfl rfl ⟨rfl, rfl⟩
set_option maxHeartbeats 1000000 in
theorem taken_0 {g z : Nat → Int32} {w : Int64} {a b : Nat → Nat → Int32} (x k : Int32) (hk : 0 ≤ k ∧ k ≤ 5) (h : 0 ≤ x ∧ x ≤ g 11 - 1) (h6 : vp_in x 6) (h18 : vp_in (3 * x) 18) (hc : a 5 x.toNatClampNeg = 0) : P0 2 0 0 mX11_taken (0, ent 4 [.ref 0, .int x, .int k], [], hC g z w a b) (fun r h' => r = some (.int (if 0 = k then a 6 (3 * x).toNatClampNeg else -13)) ∧ h' = hC g z w a b) := by
  refine P0.b GX11_taken 4 (ob := []) (cf' := (6, [some (.ref 0), some (.int x), some (.int k), none], [.long 5, .long 0, .long k.toInt64], hC g z w a b)) rfl trivial ?_
  refine P0.cr (io := []) (as := [.long k.toInt64, .long ((0 : Int32).toInt64), .long ((5 : Int32).toInt64)]) (rest := []) (hc := []) (hc1 := []) (r1 := some (.int (if 0 ≤ k ∧ k ≤ 5 then 1 else 0))) (st' := [.int (if 0 ≤ k ∧ k ≤ 5 then 1 else 0)]) (h' := hC g z w a b) (d0 := 0) GX11_in kX11_taken_6 rfl rfl (Nat.le_of_ble_eq_true rfl) (Nat.le_of_ble_eq_true rfl) rfl trivial (e_in32 k 0 5) (Nat.le_of_ble_eq_true rfl) rfl (Nat.le_of_ble_eq_true rfl) (Nat.le_of_ble_eq_true rfl) rfl rfl ?_
  refine P0.b GX11_taken 1 (ob := []) (cf' := (if (if 0 ≤ k ∧ k ≤ 5 then 1 else 0) = 0 then 12 else 15, [some (.ref 0), some (.int x), some (.int k), none], [], hC g z w a b)) rfl trivial ?_
  rw [if_pos (show 0 ≤ k ∧ k ≤ 5 from hk), if_neg (by decide)]
  refine P0.b GX11_taken 2 (ob := []) (cf' := (17, [some (.ref 0), some (.int x), some (.int k), none], [.int x, .ref 0], hC g z w a b)) rfl trivial ?_
  refine P0.cd (d0 := 1) (as := [.ref 0, .int x]) (rest := []) (r1 := some (.int (if 0 ≤ x ∧ x ≤ g 11 - 1 then 1 else 0))) (h1 := hC g z w a b) (st' := [.int (if 0 ≤ x ∧ x ≤ g 11 - 1 then 1 else 0)]) GX11_isWitness kX11_taken_17 rfl ⟨_, _, rfl, rfl, .inl ⟨_, _, _, _, rfl, rfl⟩⟩ (Nat.le_of_ble_eq_true rfl) (Nat.le_of_ble_eq_true rfl) (e_X11_isWitness (g := mx g z) (w := w) (a := my a b) x) (Nat.le_of_ble_eq_true rfl) rfl (Nat.le_of_ble_eq_true rfl) rfl ?_
  refine P0.b GX11_taken 1 (ob := []) (cf' := (if (if 0 ≤ x ∧ x ≤ g 11 - 1 then 1 else 0) = 0 then 23 else 26, [some (.ref 0), some (.int x), some (.int k), none], [], hC g z w a b)) rfl trivial ?_
  rw [if_pos (show 0 ≤ x ∧ x ≤ g 11 - 1 from h), if_neg (by decide)]
  refine P0.b GX11_taken 8 (ob := [vp_in x 6]) (cf' := (if (a 5) x.toNatClampNeg = -1 then 51 else 38, [some (.ref 0), some (.int x), some (.int k), some (.int ((a 5) x.toNatClampNeg))], [], hC g z w a b)) rfl ⟨h6, trivial⟩ ?_
  rw [show (a 5) x.toNatClampNeg = 0 from hc]
  rw [if_neg (show ¬ ((0 : Int32) = -1) from by decide)]
  refine P0.b GX11_taken 3 (ob := []) (cf' := (if 0 = k then 51 else 43, [some (.ref 0), some (.int x), some (.int k), some (.int 0)], [], hC g z w a b)) rfl trivial ?_
  refine P0.if (fun h1 => ?_) (fun h1 => ?_)
  · refine P0.b GX11_taken 3 (ob := []) (cf' := (if 0 = k then 56 else 67, [some (.ref 0), some (.int x), some (.int k), some (.int 0)], [], hC g z w a b)) rfl trivial ?_
    rw [if_pos (show 0 = k from h1)]
    refine P0.b GX11_taken 7 (ob := [vp_in (3 * x) 18]) (cf' := (69, [some (.ref 0), some (.int x), some (.int k), some (.int 0)], [.int ((a 6) (3 * x).toNatClampNeg)], hC g z w a b)) rfl ⟨h18, trivial⟩ ?_
    exact P0.ri (by decide +kernel) rfl rfl ⟨(by rw [if_pos h1]), rfl⟩
  · refine P0.b GX11_taken 1 (ob := []) (cf' := (44, [some (.ref 0), some (.int x), some (.int k), some (.int 0)], [.int 0], hC g z w a b)) rfl trivial ?_
    refine P0.cr (io := []) (as := [.int 0]) (rest := []) (hc := []) (hc1 := []) (r1 := some (.int (-1))) (st' := [.int (-1)]) (h' := hC g z w a b) (d0 := 0) GX11_over kX11_taken_44 rfl rfl (Nat.le_of_ble_eq_true rfl) (Nat.le_of_ble_eq_true rfl) rfl trivial (over_0) (Nat.le_of_ble_eq_true rfl) rfl (Nat.le_of_ble_eq_true rfl) (Nat.le_of_ble_eq_true rfl) rfl rfl ?_
    refine P0.b GX11_taken 5 (ob := []) (cf' := (if (-1 : Int32) = -1 then 51 else 38, [some (.ref 0), some (.int x), some (.int k), some (.int (-1))], [], hC g z w a b)) rfl trivial ?_
    rw [if_pos (show ((-1 : Int32) = -1) from by decide)]
    refine P0.b GX11_taken 3 (ob := []) (cf' := (if -1 = k then 56 else 67, [some (.ref 0), some (.int x), some (.int k), some (.int (-1))], [], hC g z w a b)) rfl trivial ?_
    rw [if_neg (show ¬ (-1 = k) from fun z => absurd (z ▸ hk.1 : (0 : Int32) ≤ -1) (by decide))]
    refine P0.b GX11_taken 1 (ob := []) (cf' := (69, [some (.ref 0), some (.int x), some (.int k), some (.int (-1))], [.int (-13)], hC g z w a b)) rfl trivial ?_
    exact P0.ri (by decide +kernel) rfl rfl ⟨(by rw [if_neg h1]), rfl⟩
set_option maxHeartbeats 1000000 in
theorem taken_1 {g z : Nat → Int32} {w : Int64} {a b : Nat → Nat → Int32} (x k : Int32) (hk : 0 ≤ k ∧ k ≤ 5) (h : 0 ≤ x ∧ x ≤ g 11 - 1) (h6 : vp_in x 6) (h18 : vp_in (3 * x) 18) (hc : a 5 x.toNatClampNeg = 1) : P0 2 0 0 mX11_taken (0, ent 4 [.ref 0, .int x, .int k], [], hC g z w a b) (fun r h' => r = some (.int (if 1 = k then a 6 (3 * x).toNatClampNeg else if 0 = k then a 6 (3 * x).toNatClampNeg else -13)) ∧ h' = hC g z w a b) := by
  refine P0.b GX11_taken 4 (ob := []) (cf' := (6, [some (.ref 0), some (.int x), some (.int k), none], [.long 5, .long 0, .long k.toInt64], hC g z w a b)) rfl trivial ?_
  refine P0.cr (io := []) (as := [.long k.toInt64, .long ((0 : Int32).toInt64), .long ((5 : Int32).toInt64)]) (rest := []) (hc := []) (hc1 := []) (r1 := some (.int (if 0 ≤ k ∧ k ≤ 5 then 1 else 0))) (st' := [.int (if 0 ≤ k ∧ k ≤ 5 then 1 else 0)]) (h' := hC g z w a b) (d0 := 0) GX11_in kX11_taken_6 rfl rfl (Nat.le_of_ble_eq_true rfl) (Nat.le_of_ble_eq_true rfl) rfl trivial (e_in32 k 0 5) (Nat.le_of_ble_eq_true rfl) rfl (Nat.le_of_ble_eq_true rfl) (Nat.le_of_ble_eq_true rfl) rfl rfl ?_
  refine P0.b GX11_taken 1 (ob := []) (cf' := (if (if 0 ≤ k ∧ k ≤ 5 then 1 else 0) = 0 then 12 else 15, [some (.ref 0), some (.int x), some (.int k), none], [], hC g z w a b)) rfl trivial ?_
  rw [if_pos (show 0 ≤ k ∧ k ≤ 5 from hk), if_neg (by decide)]
  refine P0.b GX11_taken 2 (ob := []) (cf' := (17, [some (.ref 0), some (.int x), some (.int k), none], [.int x, .ref 0], hC g z w a b)) rfl trivial ?_
  refine P0.cd (d0 := 1) (as := [.ref 0, .int x]) (rest := []) (r1 := some (.int (if 0 ≤ x ∧ x ≤ g 11 - 1 then 1 else 0))) (h1 := hC g z w a b) (st' := [.int (if 0 ≤ x ∧ x ≤ g 11 - 1 then 1 else 0)]) GX11_isWitness kX11_taken_17 rfl ⟨_, _, rfl, rfl, .inl ⟨_, _, _, _, rfl, rfl⟩⟩ (Nat.le_of_ble_eq_true rfl) (Nat.le_of_ble_eq_true rfl) (e_X11_isWitness (g := mx g z) (w := w) (a := my a b) x) (Nat.le_of_ble_eq_true rfl) rfl (Nat.le_of_ble_eq_true rfl) rfl ?_
  refine P0.b GX11_taken 1 (ob := []) (cf' := (if (if 0 ≤ x ∧ x ≤ g 11 - 1 then 1 else 0) = 0 then 23 else 26, [some (.ref 0), some (.int x), some (.int k), none], [], hC g z w a b)) rfl trivial ?_
  rw [if_pos (show 0 ≤ x ∧ x ≤ g 11 - 1 from h), if_neg (by decide)]
  refine P0.b GX11_taken 8 (ob := [vp_in x 6]) (cf' := (if (a 5) x.toNatClampNeg = -1 then 51 else 38, [some (.ref 0), some (.int x), some (.int k), some (.int ((a 5) x.toNatClampNeg))], [], hC g z w a b)) rfl ⟨h6, trivial⟩ ?_
  rw [show (a 5) x.toNatClampNeg = 1 from hc]
  rw [if_neg (show ¬ ((1 : Int32) = -1) from by decide)]
  refine P0.b GX11_taken 3 (ob := []) (cf' := (if 1 = k then 51 else 43, [some (.ref 0), some (.int x), some (.int k), some (.int 1)], [], hC g z w a b)) rfl trivial ?_
  refine P0.if (fun h1 => ?_) (fun h1 => ?_)
  · refine P0.b GX11_taken 3 (ob := []) (cf' := (if 1 = k then 56 else 67, [some (.ref 0), some (.int x), some (.int k), some (.int 1)], [], hC g z w a b)) rfl trivial ?_
    rw [if_pos (show 1 = k from h1)]
    refine P0.b GX11_taken 7 (ob := [vp_in (3 * x) 18]) (cf' := (69, [some (.ref 0), some (.int x), some (.int k), some (.int 1)], [.int ((a 6) (3 * x).toNatClampNeg)], hC g z w a b)) rfl ⟨h18, trivial⟩ ?_
    exact P0.ri (by decide +kernel) rfl rfl ⟨(by rw [if_pos h1]), rfl⟩
  · refine P0.b GX11_taken 1 (ob := []) (cf' := (44, [some (.ref 0), some (.int x), some (.int k), some (.int 1)], [.int 1], hC g z w a b)) rfl trivial ?_
    refine P0.cr (io := []) (as := [.int 1]) (rest := []) (hc := []) (hc1 := []) (r1 := some (.int 0)) (st' := [.int 0]) (h' := hC g z w a b) (d0 := 0) GX11_over kX11_taken_44 rfl rfl (Nat.le_of_ble_eq_true rfl) (Nat.le_of_ble_eq_true rfl) rfl trivial (over_1) (Nat.le_of_ble_eq_true rfl) rfl (Nat.le_of_ble_eq_true rfl) (Nat.le_of_ble_eq_true rfl) rfl rfl ?_
    refine P0.b GX11_taken 5 (ob := []) (cf' := (if (0 : Int32) = -1 then 51 else 38, [some (.ref 0), some (.int x), some (.int k), some (.int 0)], [], hC g z w a b)) rfl trivial ?_
    rw [if_neg (show ¬ ((0 : Int32) = -1) from by decide)]
    refine P0.b GX11_taken 3 (ob := []) (cf' := (if 0 = k then 51 else 43, [some (.ref 0), some (.int x), some (.int k), some (.int 0)], [], hC g z w a b)) rfl trivial ?_
    refine P0.if (fun h2 => ?_) (fun h2 => ?_)
    · refine P0.b GX11_taken 3 (ob := []) (cf' := (if 0 = k then 56 else 67, [some (.ref 0), some (.int x), some (.int k), some (.int 0)], [], hC g z w a b)) rfl trivial ?_
      rw [if_pos (show 0 = k from h2)]
      refine P0.b GX11_taken 7 (ob := [vp_in (3 * x) 18]) (cf' := (69, [some (.ref 0), some (.int x), some (.int k), some (.int 0)], [.int ((a 6) (3 * x).toNatClampNeg)], hC g z w a b)) rfl ⟨h18, trivial⟩ ?_
      exact P0.ri (by decide +kernel) rfl rfl ⟨(by rw [if_neg h1, if_pos h2]), rfl⟩
    · refine P0.b GX11_taken 1 (ob := []) (cf' := (44, [some (.ref 0), some (.int x), some (.int k), some (.int 0)], [.int 0], hC g z w a b)) rfl trivial ?_
      refine P0.cr (io := []) (as := [.int 0]) (rest := []) (hc := []) (hc1 := []) (r1 := some (.int (-1))) (st' := [.int (-1)]) (h' := hC g z w a b) (d0 := 0) GX11_over kX11_taken_44 rfl rfl (Nat.le_of_ble_eq_true rfl) (Nat.le_of_ble_eq_true rfl) rfl trivial (over_0) (Nat.le_of_ble_eq_true rfl) rfl (Nat.le_of_ble_eq_true rfl) (Nat.le_of_ble_eq_true rfl) rfl rfl ?_
      refine P0.b GX11_taken 5 (ob := []) (cf' := (if (-1 : Int32) = -1 then 51 else 38, [some (.ref 0), some (.int x), some (.int k), some (.int (-1))], [], hC g z w a b)) rfl trivial ?_
      rw [if_pos (show ((-1 : Int32) = -1) from by decide)]
      refine P0.b GX11_taken 3 (ob := []) (cf' := (if -1 = k then 56 else 67, [some (.ref 0), some (.int x), some (.int k), some (.int (-1))], [], hC g z w a b)) rfl trivial ?_
      rw [if_neg (show ¬ (-1 = k) from fun z => absurd (z ▸ hk.1 : (0 : Int32) ≤ -1) (by decide))]
      refine P0.b GX11_taken 1 (ob := []) (cf' := (69, [some (.ref 0), some (.int x), some (.int k), some (.int (-1))], [.int (-13)], hC g z w a b)) rfl trivial ?_
      exact P0.ri (by decide +kernel) rfl rfl ⟨(by rw [if_neg h1, if_neg h2]), rfl⟩
set_option maxHeartbeats 1000000 in
theorem taken_2 {g z : Nat → Int32} {w : Int64} {a b : Nat → Nat → Int32} (x k : Int32) (hk : 0 ≤ k ∧ k ≤ 5) (h : 0 ≤ x ∧ x ≤ g 11 - 1) (h6 : vp_in x 6) (h18 : vp_in (3 * x) 18) (hc : a 5 x.toNatClampNeg = 2) : P0 2 0 0 mX11_taken (0, ent 4 [.ref 0, .int x, .int k], [], hC g z w a b) (fun r h' => r = some (.int (if 2 = k then a 6 (3 * x).toNatClampNeg else if 0 = k then a 6 (3 * x).toNatClampNeg else -13)) ∧ h' = hC g z w a b) := by
  refine P0.b GX11_taken 4 (ob := []) (cf' := (6, [some (.ref 0), some (.int x), some (.int k), none], [.long 5, .long 0, .long k.toInt64], hC g z w a b)) rfl trivial ?_
  refine P0.cr (io := []) (as := [.long k.toInt64, .long ((0 : Int32).toInt64), .long ((5 : Int32).toInt64)]) (rest := []) (hc := []) (hc1 := []) (r1 := some (.int (if 0 ≤ k ∧ k ≤ 5 then 1 else 0))) (st' := [.int (if 0 ≤ k ∧ k ≤ 5 then 1 else 0)]) (h' := hC g z w a b) (d0 := 0) GX11_in kX11_taken_6 rfl rfl (Nat.le_of_ble_eq_true rfl) (Nat.le_of_ble_eq_true rfl) rfl trivial (e_in32 k 0 5) (Nat.le_of_ble_eq_true rfl) rfl (Nat.le_of_ble_eq_true rfl) (Nat.le_of_ble_eq_true rfl) rfl rfl ?_
  refine P0.b GX11_taken 1 (ob := []) (cf' := (if (if 0 ≤ k ∧ k ≤ 5 then 1 else 0) = 0 then 12 else 15, [some (.ref 0), some (.int x), some (.int k), none], [], hC g z w a b)) rfl trivial ?_
  rw [if_pos (show 0 ≤ k ∧ k ≤ 5 from hk), if_neg (by decide)]
  refine P0.b GX11_taken 2 (ob := []) (cf' := (17, [some (.ref 0), some (.int x), some (.int k), none], [.int x, .ref 0], hC g z w a b)) rfl trivial ?_
  refine P0.cd (d0 := 1) (as := [.ref 0, .int x]) (rest := []) (r1 := some (.int (if 0 ≤ x ∧ x ≤ g 11 - 1 then 1 else 0))) (h1 := hC g z w a b) (st' := [.int (if 0 ≤ x ∧ x ≤ g 11 - 1 then 1 else 0)]) GX11_isWitness kX11_taken_17 rfl ⟨_, _, rfl, rfl, .inl ⟨_, _, _, _, rfl, rfl⟩⟩ (Nat.le_of_ble_eq_true rfl) (Nat.le_of_ble_eq_true rfl) (e_X11_isWitness (g := mx g z) (w := w) (a := my a b) x) (Nat.le_of_ble_eq_true rfl) rfl (Nat.le_of_ble_eq_true rfl) rfl ?_
  refine P0.b GX11_taken 1 (ob := []) (cf' := (if (if 0 ≤ x ∧ x ≤ g 11 - 1 then 1 else 0) = 0 then 23 else 26, [some (.ref 0), some (.int x), some (.int k), none], [], hC g z w a b)) rfl trivial ?_
  rw [if_pos (show 0 ≤ x ∧ x ≤ g 11 - 1 from h), if_neg (by decide)]
  refine P0.b GX11_taken 8 (ob := [vp_in x 6]) (cf' := (if (a 5) x.toNatClampNeg = -1 then 51 else 38, [some (.ref 0), some (.int x), some (.int k), some (.int ((a 5) x.toNatClampNeg))], [], hC g z w a b)) rfl ⟨h6, trivial⟩ ?_
  rw [show (a 5) x.toNatClampNeg = 2 from hc]
  rw [if_neg (show ¬ ((2 : Int32) = -1) from by decide)]
  refine P0.b GX11_taken 3 (ob := []) (cf' := (if 2 = k then 51 else 43, [some (.ref 0), some (.int x), some (.int k), some (.int 2)], [], hC g z w a b)) rfl trivial ?_
  refine P0.if (fun h1 => ?_) (fun h1 => ?_)
  · refine P0.b GX11_taken 3 (ob := []) (cf' := (if 2 = k then 56 else 67, [some (.ref 0), some (.int x), some (.int k), some (.int 2)], [], hC g z w a b)) rfl trivial ?_
    rw [if_pos (show 2 = k from h1)]
    refine P0.b GX11_taken 7 (ob := [vp_in (3 * x) 18]) (cf' := (69, [some (.ref 0), some (.int x), some (.int k), some (.int 2)], [.int ((a 6) (3 * x).toNatClampNeg)], hC g z w a b)) rfl ⟨h18, trivial⟩ ?_
    exact P0.ri (by decide +kernel) rfl rfl ⟨(by rw [if_pos h1]), rfl⟩
  · refine P0.b GX11_taken 1 (ob := []) (cf' := (44, [some (.ref 0), some (.int x), some (.int k), some (.int 2)], [.int 2], hC g z w a b)) rfl trivial ?_
    refine P0.cr (io := []) (as := [.int 2]) (rest := []) (hc := []) (hc1 := []) (r1 := some (.int 0)) (st' := [.int 0]) (h' := hC g z w a b) (d0 := 0) GX11_over kX11_taken_44 rfl rfl (Nat.le_of_ble_eq_true rfl) (Nat.le_of_ble_eq_true rfl) rfl trivial (over_2) (Nat.le_of_ble_eq_true rfl) rfl (Nat.le_of_ble_eq_true rfl) (Nat.le_of_ble_eq_true rfl) rfl rfl ?_
    refine P0.b GX11_taken 5 (ob := []) (cf' := (if (0 : Int32) = -1 then 51 else 38, [some (.ref 0), some (.int x), some (.int k), some (.int 0)], [], hC g z w a b)) rfl trivial ?_
    rw [if_neg (show ¬ ((0 : Int32) = -1) from by decide)]
    refine P0.b GX11_taken 3 (ob := []) (cf' := (if 0 = k then 51 else 43, [some (.ref 0), some (.int x), some (.int k), some (.int 0)], [], hC g z w a b)) rfl trivial ?_
    refine P0.if (fun h2 => ?_) (fun h2 => ?_)
    · refine P0.b GX11_taken 3 (ob := []) (cf' := (if 0 = k then 56 else 67, [some (.ref 0), some (.int x), some (.int k), some (.int 0)], [], hC g z w a b)) rfl trivial ?_
      rw [if_pos (show 0 = k from h2)]
      refine P0.b GX11_taken 7 (ob := [vp_in (3 * x) 18]) (cf' := (69, [some (.ref 0), some (.int x), some (.int k), some (.int 0)], [.int ((a 6) (3 * x).toNatClampNeg)], hC g z w a b)) rfl ⟨h18, trivial⟩ ?_
      exact P0.ri (by decide +kernel) rfl rfl ⟨(by rw [if_neg h1, if_pos h2]), rfl⟩
    · refine P0.b GX11_taken 1 (ob := []) (cf' := (44, [some (.ref 0), some (.int x), some (.int k), some (.int 0)], [.int 0], hC g z w a b)) rfl trivial ?_
      refine P0.cr (io := []) (as := [.int 0]) (rest := []) (hc := []) (hc1 := []) (r1 := some (.int (-1))) (st' := [.int (-1)]) (h' := hC g z w a b) (d0 := 0) GX11_over kX11_taken_44 rfl rfl (Nat.le_of_ble_eq_true rfl) (Nat.le_of_ble_eq_true rfl) rfl trivial (over_0) (Nat.le_of_ble_eq_true rfl) rfl (Nat.le_of_ble_eq_true rfl) (Nat.le_of_ble_eq_true rfl) rfl rfl ?_
      refine P0.b GX11_taken 5 (ob := []) (cf' := (if (-1 : Int32) = -1 then 51 else 38, [some (.ref 0), some (.int x), some (.int k), some (.int (-1))], [], hC g z w a b)) rfl trivial ?_
      rw [if_pos (show ((-1 : Int32) = -1) from by decide)]
      refine P0.b GX11_taken 3 (ob := []) (cf' := (if -1 = k then 56 else 67, [some (.ref 0), some (.int x), some (.int k), some (.int (-1))], [], hC g z w a b)) rfl trivial ?_
      rw [if_neg (show ¬ (-1 = k) from fun z => absurd (z ▸ hk.1 : (0 : Int32) ≤ -1) (by decide))]
      refine P0.b GX11_taken 1 (ob := []) (cf' := (69, [some (.ref 0), some (.int x), some (.int k), some (.int (-1))], [.int (-13)], hC g z w a b)) rfl trivial ?_
      exact P0.ri (by decide +kernel) rfl rfl ⟨(by rw [if_neg h1, if_neg h2]), rfl⟩
set_option maxHeartbeats 1000000 in
theorem taken_3 {g z : Nat → Int32} {w : Int64} {a b : Nat → Nat → Int32} (x k : Int32) (hk : 0 ≤ k ∧ k ≤ 5) (h : 0 ≤ x ∧ x ≤ g 11 - 1) (h6 : vp_in x 6) (h18 : vp_in (3 * x) 18) (hc : a 5 x.toNatClampNeg = 3) : P0 2 0 0 mX11_taken (0, ent 4 [.ref 0, .int x, .int k], [], hC g z w a b) (fun r h' => r = some (.int (if 3 = k then a 6 (3 * x).toNatClampNeg else if 1 = k then a 6 (3 * x).toNatClampNeg else if 0 = k then a 6 (3 * x).toNatClampNeg else -13)) ∧ h' = hC g z w a b) := by
  refine P0.b GX11_taken 4 (ob := []) (cf' := (6, [some (.ref 0), some (.int x), some (.int k), none], [.long 5, .long 0, .long k.toInt64], hC g z w a b)) rfl trivial ?_
  refine P0.cr (io := []) (as := [.long k.toInt64, .long ((0 : Int32).toInt64), .long ((5 : Int32).toInt64)]) (rest := []) (hc := []) (hc1 := []) (r1 := some (.int (if 0 ≤ k ∧ k ≤ 5 then 1 else 0))) (st' := [.int (if 0 ≤ k ∧ k ≤ 5 then 1 else 0)]) (h' := hC g z w a b) (d0 := 0) GX11_in kX11_taken_6 rfl rfl (Nat.le_of_ble_eq_true rfl) (Nat.le_of_ble_eq_true rfl) rfl trivial (e_in32 k 0 5) (Nat.le_of_ble_eq_true rfl) rfl (Nat.le_of_ble_eq_true rfl) (Nat.le_of_ble_eq_true rfl) rfl rfl ?_
  refine P0.b GX11_taken 1 (ob := []) (cf' := (if (if 0 ≤ k ∧ k ≤ 5 then 1 else 0) = 0 then 12 else 15, [some (.ref 0), some (.int x), some (.int k), none], [], hC g z w a b)) rfl trivial ?_
  rw [if_pos (show 0 ≤ k ∧ k ≤ 5 from hk), if_neg (by decide)]
  refine P0.b GX11_taken 2 (ob := []) (cf' := (17, [some (.ref 0), some (.int x), some (.int k), none], [.int x, .ref 0], hC g z w a b)) rfl trivial ?_
  refine P0.cd (d0 := 1) (as := [.ref 0, .int x]) (rest := []) (r1 := some (.int (if 0 ≤ x ∧ x ≤ g 11 - 1 then 1 else 0))) (h1 := hC g z w a b) (st' := [.int (if 0 ≤ x ∧ x ≤ g 11 - 1 then 1 else 0)]) GX11_isWitness kX11_taken_17 rfl ⟨_, _, rfl, rfl, .inl ⟨_, _, _, _, rfl, rfl⟩⟩ (Nat.le_of_ble_eq_true rfl) (Nat.le_of_ble_eq_true rfl) (e_X11_isWitness (g := mx g z) (w := w) (a := my a b) x) (Nat.le_of_ble_eq_true rfl) rfl (Nat.le_of_ble_eq_true rfl) rfl ?_
  refine P0.b GX11_taken 1 (ob := []) (cf' := (if (if 0 ≤ x ∧ x ≤ g 11 - 1 then 1 else 0) = 0 then 23 else 26, [some (.ref 0), some (.int x), some (.int k), none], [], hC g z w a b)) rfl trivial ?_
  rw [if_pos (show 0 ≤ x ∧ x ≤ g 11 - 1 from h), if_neg (by decide)]
  refine P0.b GX11_taken 8 (ob := [vp_in x 6]) (cf' := (if (a 5) x.toNatClampNeg = -1 then 51 else 38, [some (.ref 0), some (.int x), some (.int k), some (.int ((a 5) x.toNatClampNeg))], [], hC g z w a b)) rfl ⟨h6, trivial⟩ ?_
  rw [show (a 5) x.toNatClampNeg = 3 from hc]
  rw [if_neg (show ¬ ((3 : Int32) = -1) from by decide)]
  refine P0.b GX11_taken 3 (ob := []) (cf' := (if 3 = k then 51 else 43, [some (.ref 0), some (.int x), some (.int k), some (.int 3)], [], hC g z w a b)) rfl trivial ?_
  refine P0.if (fun h1 => ?_) (fun h1 => ?_)
  · refine P0.b GX11_taken 3 (ob := []) (cf' := (if 3 = k then 56 else 67, [some (.ref 0), some (.int x), some (.int k), some (.int 3)], [], hC g z w a b)) rfl trivial ?_
    rw [if_pos (show 3 = k from h1)]
    refine P0.b GX11_taken 7 (ob := [vp_in (3 * x) 18]) (cf' := (69, [some (.ref 0), some (.int x), some (.int k), some (.int 3)], [.int ((a 6) (3 * x).toNatClampNeg)], hC g z w a b)) rfl ⟨h18, trivial⟩ ?_
    exact P0.ri (by decide +kernel) rfl rfl ⟨(by rw [if_pos h1]), rfl⟩
  · refine P0.b GX11_taken 1 (ob := []) (cf' := (44, [some (.ref 0), some (.int x), some (.int k), some (.int 3)], [.int 3], hC g z w a b)) rfl trivial ?_
    refine P0.cr (io := []) (as := [.int 3]) (rest := []) (hc := []) (hc1 := []) (r1 := some (.int 1)) (st' := [.int 1]) (h' := hC g z w a b) (d0 := 0) GX11_over kX11_taken_44 rfl rfl (Nat.le_of_ble_eq_true rfl) (Nat.le_of_ble_eq_true rfl) rfl trivial (over_3) (Nat.le_of_ble_eq_true rfl) rfl (Nat.le_of_ble_eq_true rfl) (Nat.le_of_ble_eq_true rfl) rfl rfl ?_
    refine P0.b GX11_taken 5 (ob := []) (cf' := (if (1 : Int32) = -1 then 51 else 38, [some (.ref 0), some (.int x), some (.int k), some (.int 1)], [], hC g z w a b)) rfl trivial ?_
    rw [if_neg (show ¬ ((1 : Int32) = -1) from by decide)]
    refine P0.b GX11_taken 3 (ob := []) (cf' := (if 1 = k then 51 else 43, [some (.ref 0), some (.int x), some (.int k), some (.int 1)], [], hC g z w a b)) rfl trivial ?_
    refine P0.if (fun h2 => ?_) (fun h2 => ?_)
    · refine P0.b GX11_taken 3 (ob := []) (cf' := (if 1 = k then 56 else 67, [some (.ref 0), some (.int x), some (.int k), some (.int 1)], [], hC g z w a b)) rfl trivial ?_
      rw [if_pos (show 1 = k from h2)]
      refine P0.b GX11_taken 7 (ob := [vp_in (3 * x) 18]) (cf' := (69, [some (.ref 0), some (.int x), some (.int k), some (.int 1)], [.int ((a 6) (3 * x).toNatClampNeg)], hC g z w a b)) rfl ⟨h18, trivial⟩ ?_
      exact P0.ri (by decide +kernel) rfl rfl ⟨(by rw [if_neg h1, if_pos h2]), rfl⟩
    · refine P0.b GX11_taken 1 (ob := []) (cf' := (44, [some (.ref 0), some (.int x), some (.int k), some (.int 1)], [.int 1], hC g z w a b)) rfl trivial ?_
      refine P0.cr (io := []) (as := [.int 1]) (rest := []) (hc := []) (hc1 := []) (r1 := some (.int 0)) (st' := [.int 0]) (h' := hC g z w a b) (d0 := 0) GX11_over kX11_taken_44 rfl rfl (Nat.le_of_ble_eq_true rfl) (Nat.le_of_ble_eq_true rfl) rfl trivial (over_1) (Nat.le_of_ble_eq_true rfl) rfl (Nat.le_of_ble_eq_true rfl) (Nat.le_of_ble_eq_true rfl) rfl rfl ?_
      refine P0.b GX11_taken 5 (ob := []) (cf' := (if (0 : Int32) = -1 then 51 else 38, [some (.ref 0), some (.int x), some (.int k), some (.int 0)], [], hC g z w a b)) rfl trivial ?_
      rw [if_neg (show ¬ ((0 : Int32) = -1) from by decide)]
      refine P0.b GX11_taken 3 (ob := []) (cf' := (if 0 = k then 51 else 43, [some (.ref 0), some (.int x), some (.int k), some (.int 0)], [], hC g z w a b)) rfl trivial ?_
      refine P0.if (fun h3 => ?_) (fun h3 => ?_)
      · refine P0.b GX11_taken 3 (ob := []) (cf' := (if 0 = k then 56 else 67, [some (.ref 0), some (.int x), some (.int k), some (.int 0)], [], hC g z w a b)) rfl trivial ?_
        rw [if_pos (show 0 = k from h3)]
        refine P0.b GX11_taken 7 (ob := [vp_in (3 * x) 18]) (cf' := (69, [some (.ref 0), some (.int x), some (.int k), some (.int 0)], [.int ((a 6) (3 * x).toNatClampNeg)], hC g z w a b)) rfl ⟨h18, trivial⟩ ?_
        exact P0.ri (by decide +kernel) rfl rfl ⟨(by rw [if_neg h1, if_neg h2, if_pos h3]), rfl⟩
      · refine P0.b GX11_taken 1 (ob := []) (cf' := (44, [some (.ref 0), some (.int x), some (.int k), some (.int 0)], [.int 0], hC g z w a b)) rfl trivial ?_
        refine P0.cr (io := []) (as := [.int 0]) (rest := []) (hc := []) (hc1 := []) (r1 := some (.int (-1))) (st' := [.int (-1)]) (h' := hC g z w a b) (d0 := 0) GX11_over kX11_taken_44 rfl rfl (Nat.le_of_ble_eq_true rfl) (Nat.le_of_ble_eq_true rfl) rfl trivial (over_0) (Nat.le_of_ble_eq_true rfl) rfl (Nat.le_of_ble_eq_true rfl) (Nat.le_of_ble_eq_true rfl) rfl rfl ?_
        refine P0.b GX11_taken 5 (ob := []) (cf' := (if (-1 : Int32) = -1 then 51 else 38, [some (.ref 0), some (.int x), some (.int k), some (.int (-1))], [], hC g z w a b)) rfl trivial ?_
        rw [if_pos (show ((-1 : Int32) = -1) from by decide)]
        refine P0.b GX11_taken 3 (ob := []) (cf' := (if -1 = k then 56 else 67, [some (.ref 0), some (.int x), some (.int k), some (.int (-1))], [], hC g z w a b)) rfl trivial ?_
        rw [if_neg (show ¬ (-1 = k) from fun z => absurd (z ▸ hk.1 : (0 : Int32) ≤ -1) (by decide))]
        refine P0.b GX11_taken 1 (ob := []) (cf' := (69, [some (.ref 0), some (.int x), some (.int k), some (.int (-1))], [.int (-13)], hC g z w a b)) rfl trivial ?_
        exact P0.ri (by decide +kernel) rfl rfl ⟨(by rw [if_neg h1, if_neg h2, if_neg h3]), rfl⟩
set_option maxHeartbeats 1000000 in
theorem taken_4 {g z : Nat → Int32} {w : Int64} {a b : Nat → Nat → Int32} (x k : Int32) (hk : 0 ≤ k ∧ k ≤ 5) (h : 0 ≤ x ∧ x ≤ g 11 - 1) (h6 : vp_in x 6) (h18 : vp_in (3 * x) 18) (hc : a 5 x.toNatClampNeg = 4) : P0 2 0 0 mX11_taken (0, ent 4 [.ref 0, .int x, .int k], [], hC g z w a b) (fun r h' => r = some (.int (if 4 = k then a 6 (3 * x).toNatClampNeg else if 2 = k then a 6 (3 * x).toNatClampNeg else if 0 = k then a 6 (3 * x).toNatClampNeg else -13)) ∧ h' = hC g z w a b) := by
  refine P0.b GX11_taken 4 (ob := []) (cf' := (6, [some (.ref 0), some (.int x), some (.int k), none], [.long 5, .long 0, .long k.toInt64], hC g z w a b)) rfl trivial ?_
  refine P0.cr (io := []) (as := [.long k.toInt64, .long ((0 : Int32).toInt64), .long ((5 : Int32).toInt64)]) (rest := []) (hc := []) (hc1 := []) (r1 := some (.int (if 0 ≤ k ∧ k ≤ 5 then 1 else 0))) (st' := [.int (if 0 ≤ k ∧ k ≤ 5 then 1 else 0)]) (h' := hC g z w a b) (d0 := 0) GX11_in kX11_taken_6 rfl rfl (Nat.le_of_ble_eq_true rfl) (Nat.le_of_ble_eq_true rfl) rfl trivial (e_in32 k 0 5) (Nat.le_of_ble_eq_true rfl) rfl (Nat.le_of_ble_eq_true rfl) (Nat.le_of_ble_eq_true rfl) rfl rfl ?_
  refine P0.b GX11_taken 1 (ob := []) (cf' := (if (if 0 ≤ k ∧ k ≤ 5 then 1 else 0) = 0 then 12 else 15, [some (.ref 0), some (.int x), some (.int k), none], [], hC g z w a b)) rfl trivial ?_
  rw [if_pos (show 0 ≤ k ∧ k ≤ 5 from hk), if_neg (by decide)]
  refine P0.b GX11_taken 2 (ob := []) (cf' := (17, [some (.ref 0), some (.int x), some (.int k), none], [.int x, .ref 0], hC g z w a b)) rfl trivial ?_
  refine P0.cd (d0 := 1) (as := [.ref 0, .int x]) (rest := []) (r1 := some (.int (if 0 ≤ x ∧ x ≤ g 11 - 1 then 1 else 0))) (h1 := hC g z w a b) (st' := [.int (if 0 ≤ x ∧ x ≤ g 11 - 1 then 1 else 0)]) GX11_isWitness kX11_taken_17 rfl ⟨_, _, rfl, rfl, .inl ⟨_, _, _, _, rfl, rfl⟩⟩ (Nat.le_of_ble_eq_true rfl) (Nat.le_of_ble_eq_true rfl) (e_X11_isWitness (g := mx g z) (w := w) (a := my a b) x) (Nat.le_of_ble_eq_true rfl) rfl (Nat.le_of_ble_eq_true rfl) rfl ?_
  refine P0.b GX11_taken 1 (ob := []) (cf' := (if (if 0 ≤ x ∧ x ≤ g 11 - 1 then 1 else 0) = 0 then 23 else 26, [some (.ref 0), some (.int x), some (.int k), none], [], hC g z w a b)) rfl trivial ?_
  rw [if_pos (show 0 ≤ x ∧ x ≤ g 11 - 1 from h), if_neg (by decide)]
  refine P0.b GX11_taken 8 (ob := [vp_in x 6]) (cf' := (if (a 5) x.toNatClampNeg = -1 then 51 else 38, [some (.ref 0), some (.int x), some (.int k), some (.int ((a 5) x.toNatClampNeg))], [], hC g z w a b)) rfl ⟨h6, trivial⟩ ?_
  rw [show (a 5) x.toNatClampNeg = 4 from hc]
  rw [if_neg (show ¬ ((4 : Int32) = -1) from by decide)]
  refine P0.b GX11_taken 3 (ob := []) (cf' := (if 4 = k then 51 else 43, [some (.ref 0), some (.int x), some (.int k), some (.int 4)], [], hC g z w a b)) rfl trivial ?_
  refine P0.if (fun h1 => ?_) (fun h1 => ?_)
  · refine P0.b GX11_taken 3 (ob := []) (cf' := (if 4 = k then 56 else 67, [some (.ref 0), some (.int x), some (.int k), some (.int 4)], [], hC g z w a b)) rfl trivial ?_
    rw [if_pos (show 4 = k from h1)]
    refine P0.b GX11_taken 7 (ob := [vp_in (3 * x) 18]) (cf' := (69, [some (.ref 0), some (.int x), some (.int k), some (.int 4)], [.int ((a 6) (3 * x).toNatClampNeg)], hC g z w a b)) rfl ⟨h18, trivial⟩ ?_
    exact P0.ri (by decide +kernel) rfl rfl ⟨(by rw [if_pos h1]), rfl⟩
  · refine P0.b GX11_taken 1 (ob := []) (cf' := (44, [some (.ref 0), some (.int x), some (.int k), some (.int 4)], [.int 4], hC g z w a b)) rfl trivial ?_
    refine P0.cr (io := []) (as := [.int 4]) (rest := []) (hc := []) (hc1 := []) (r1 := some (.int 2)) (st' := [.int 2]) (h' := hC g z w a b) (d0 := 0) GX11_over kX11_taken_44 rfl rfl (Nat.le_of_ble_eq_true rfl) (Nat.le_of_ble_eq_true rfl) rfl trivial (over_4) (Nat.le_of_ble_eq_true rfl) rfl (Nat.le_of_ble_eq_true rfl) (Nat.le_of_ble_eq_true rfl) rfl rfl ?_
    refine P0.b GX11_taken 5 (ob := []) (cf' := (if (2 : Int32) = -1 then 51 else 38, [some (.ref 0), some (.int x), some (.int k), some (.int 2)], [], hC g z w a b)) rfl trivial ?_
    rw [if_neg (show ¬ ((2 : Int32) = -1) from by decide)]
    refine P0.b GX11_taken 3 (ob := []) (cf' := (if 2 = k then 51 else 43, [some (.ref 0), some (.int x), some (.int k), some (.int 2)], [], hC g z w a b)) rfl trivial ?_
    refine P0.if (fun h2 => ?_) (fun h2 => ?_)
    · refine P0.b GX11_taken 3 (ob := []) (cf' := (if 2 = k then 56 else 67, [some (.ref 0), some (.int x), some (.int k), some (.int 2)], [], hC g z w a b)) rfl trivial ?_
      rw [if_pos (show 2 = k from h2)]
      refine P0.b GX11_taken 7 (ob := [vp_in (3 * x) 18]) (cf' := (69, [some (.ref 0), some (.int x), some (.int k), some (.int 2)], [.int ((a 6) (3 * x).toNatClampNeg)], hC g z w a b)) rfl ⟨h18, trivial⟩ ?_
      exact P0.ri (by decide +kernel) rfl rfl ⟨(by rw [if_neg h1, if_pos h2]), rfl⟩
    · refine P0.b GX11_taken 1 (ob := []) (cf' := (44, [some (.ref 0), some (.int x), some (.int k), some (.int 2)], [.int 2], hC g z w a b)) rfl trivial ?_
      refine P0.cr (io := []) (as := [.int 2]) (rest := []) (hc := []) (hc1 := []) (r1 := some (.int 0)) (st' := [.int 0]) (h' := hC g z w a b) (d0 := 0) GX11_over kX11_taken_44 rfl rfl (Nat.le_of_ble_eq_true rfl) (Nat.le_of_ble_eq_true rfl) rfl trivial (over_2) (Nat.le_of_ble_eq_true rfl) rfl (Nat.le_of_ble_eq_true rfl) (Nat.le_of_ble_eq_true rfl) rfl rfl ?_
      refine P0.b GX11_taken 5 (ob := []) (cf' := (if (0 : Int32) = -1 then 51 else 38, [some (.ref 0), some (.int x), some (.int k), some (.int 0)], [], hC g z w a b)) rfl trivial ?_
      rw [if_neg (show ¬ ((0 : Int32) = -1) from by decide)]
      refine P0.b GX11_taken 3 (ob := []) (cf' := (if 0 = k then 51 else 43, [some (.ref 0), some (.int x), some (.int k), some (.int 0)], [], hC g z w a b)) rfl trivial ?_
      refine P0.if (fun h3 => ?_) (fun h3 => ?_)
      · refine P0.b GX11_taken 3 (ob := []) (cf' := (if 0 = k then 56 else 67, [some (.ref 0), some (.int x), some (.int k), some (.int 0)], [], hC g z w a b)) rfl trivial ?_
        rw [if_pos (show 0 = k from h3)]
        refine P0.b GX11_taken 7 (ob := [vp_in (3 * x) 18]) (cf' := (69, [some (.ref 0), some (.int x), some (.int k), some (.int 0)], [.int ((a 6) (3 * x).toNatClampNeg)], hC g z w a b)) rfl ⟨h18, trivial⟩ ?_
        exact P0.ri (by decide +kernel) rfl rfl ⟨(by rw [if_neg h1, if_neg h2, if_pos h3]), rfl⟩
      · refine P0.b GX11_taken 1 (ob := []) (cf' := (44, [some (.ref 0), some (.int x), some (.int k), some (.int 0)], [.int 0], hC g z w a b)) rfl trivial ?_
        refine P0.cr (io := []) (as := [.int 0]) (rest := []) (hc := []) (hc1 := []) (r1 := some (.int (-1))) (st' := [.int (-1)]) (h' := hC g z w a b) (d0 := 0) GX11_over kX11_taken_44 rfl rfl (Nat.le_of_ble_eq_true rfl) (Nat.le_of_ble_eq_true rfl) rfl trivial (over_0) (Nat.le_of_ble_eq_true rfl) rfl (Nat.le_of_ble_eq_true rfl) (Nat.le_of_ble_eq_true rfl) rfl rfl ?_
        refine P0.b GX11_taken 5 (ob := []) (cf' := (if (-1 : Int32) = -1 then 51 else 38, [some (.ref 0), some (.int x), some (.int k), some (.int (-1))], [], hC g z w a b)) rfl trivial ?_
        rw [if_pos (show ((-1 : Int32) = -1) from by decide)]
        refine P0.b GX11_taken 3 (ob := []) (cf' := (if -1 = k then 56 else 67, [some (.ref 0), some (.int x), some (.int k), some (.int (-1))], [], hC g z w a b)) rfl trivial ?_
        rw [if_neg (show ¬ (-1 = k) from fun z => absurd (z ▸ hk.1 : (0 : Int32) ≤ -1) (by decide))]
        refine P0.b GX11_taken 1 (ob := []) (cf' := (69, [some (.ref 0), some (.int x), some (.int k), some (.int (-1))], [.int (-13)], hC g z w a b)) rfl trivial ?_
        exact P0.ri (by decide +kernel) rfl rfl ⟨(by rw [if_neg h1, if_neg h2, if_neg h3]), rfl⟩
set_option maxHeartbeats 1000000 in
theorem taken_5 {g z : Nat → Int32} {w : Int64} {a b : Nat → Nat → Int32} (x k : Int32) (hk : 0 ≤ k ∧ k ≤ 5) (h : 0 ≤ x ∧ x ≤ g 11 - 1) (h6 : vp_in x 6) (h18 : vp_in (3 * x) 18) (hc : a 5 x.toNatClampNeg = 5) : P0 2 0 0 mX11_taken (0, ent 4 [.ref 0, .int x, .int k], [], hC g z w a b) (fun r h' => r = some (.int (if 5 = k then a 6 (3 * x).toNatClampNeg else if 0 = k then a 6 (3 * x).toNatClampNeg else -13)) ∧ h' = hC g z w a b) := by
  refine P0.b GX11_taken 4 (ob := []) (cf' := (6, [some (.ref 0), some (.int x), some (.int k), none], [.long 5, .long 0, .long k.toInt64], hC g z w a b)) rfl trivial ?_
  refine P0.cr (io := []) (as := [.long k.toInt64, .long ((0 : Int32).toInt64), .long ((5 : Int32).toInt64)]) (rest := []) (hc := []) (hc1 := []) (r1 := some (.int (if 0 ≤ k ∧ k ≤ 5 then 1 else 0))) (st' := [.int (if 0 ≤ k ∧ k ≤ 5 then 1 else 0)]) (h' := hC g z w a b) (d0 := 0) GX11_in kX11_taken_6 rfl rfl (Nat.le_of_ble_eq_true rfl) (Nat.le_of_ble_eq_true rfl) rfl trivial (e_in32 k 0 5) (Nat.le_of_ble_eq_true rfl) rfl (Nat.le_of_ble_eq_true rfl) (Nat.le_of_ble_eq_true rfl) rfl rfl ?_
  refine P0.b GX11_taken 1 (ob := []) (cf' := (if (if 0 ≤ k ∧ k ≤ 5 then 1 else 0) = 0 then 12 else 15, [some (.ref 0), some (.int x), some (.int k), none], [], hC g z w a b)) rfl trivial ?_
  rw [if_pos (show 0 ≤ k ∧ k ≤ 5 from hk), if_neg (by decide)]
  refine P0.b GX11_taken 2 (ob := []) (cf' := (17, [some (.ref 0), some (.int x), some (.int k), none], [.int x, .ref 0], hC g z w a b)) rfl trivial ?_
  refine P0.cd (d0 := 1) (as := [.ref 0, .int x]) (rest := []) (r1 := some (.int (if 0 ≤ x ∧ x ≤ g 11 - 1 then 1 else 0))) (h1 := hC g z w a b) (st' := [.int (if 0 ≤ x ∧ x ≤ g 11 - 1 then 1 else 0)]) GX11_isWitness kX11_taken_17 rfl ⟨_, _, rfl, rfl, .inl ⟨_, _, _, _, rfl, rfl⟩⟩ (Nat.le_of_ble_eq_true rfl) (Nat.le_of_ble_eq_true rfl) (e_X11_isWitness (g := mx g z) (w := w) (a := my a b) x) (Nat.le_of_ble_eq_true rfl) rfl (Nat.le_of_ble_eq_true rfl) rfl ?_
  refine P0.b GX11_taken 1 (ob := []) (cf' := (if (if 0 ≤ x ∧ x ≤ g 11 - 1 then 1 else 0) = 0 then 23 else 26, [some (.ref 0), some (.int x), some (.int k), none], [], hC g z w a b)) rfl trivial ?_
  rw [if_pos (show 0 ≤ x ∧ x ≤ g 11 - 1 from h), if_neg (by decide)]
  refine P0.b GX11_taken 8 (ob := [vp_in x 6]) (cf' := (if (a 5) x.toNatClampNeg = -1 then 51 else 38, [some (.ref 0), some (.int x), some (.int k), some (.int ((a 5) x.toNatClampNeg))], [], hC g z w a b)) rfl ⟨h6, trivial⟩ ?_
  rw [show (a 5) x.toNatClampNeg = 5 from hc]
  rw [if_neg (show ¬ ((5 : Int32) = -1) from by decide)]
  refine P0.b GX11_taken 3 (ob := []) (cf' := (if 5 = k then 51 else 43, [some (.ref 0), some (.int x), some (.int k), some (.int 5)], [], hC g z w a b)) rfl trivial ?_
  refine P0.if (fun h1 => ?_) (fun h1 => ?_)
  · refine P0.b GX11_taken 3 (ob := []) (cf' := (if 5 = k then 56 else 67, [some (.ref 0), some (.int x), some (.int k), some (.int 5)], [], hC g z w a b)) rfl trivial ?_
    rw [if_pos (show 5 = k from h1)]
    refine P0.b GX11_taken 7 (ob := [vp_in (3 * x) 18]) (cf' := (69, [some (.ref 0), some (.int x), some (.int k), some (.int 5)], [.int ((a 6) (3 * x).toNatClampNeg)], hC g z w a b)) rfl ⟨h18, trivial⟩ ?_
    exact P0.ri (by decide +kernel) rfl rfl ⟨(by rw [if_pos h1]), rfl⟩
  · refine P0.b GX11_taken 1 (ob := []) (cf' := (44, [some (.ref 0), some (.int x), some (.int k), some (.int 5)], [.int 5], hC g z w a b)) rfl trivial ?_
    refine P0.cr (io := []) (as := [.int 5]) (rest := []) (hc := []) (hc1 := []) (r1 := some (.int 0)) (st' := [.int 0]) (h' := hC g z w a b) (d0 := 0) GX11_over kX11_taken_44 rfl rfl (Nat.le_of_ble_eq_true rfl) (Nat.le_of_ble_eq_true rfl) rfl trivial (over_5) (Nat.le_of_ble_eq_true rfl) rfl (Nat.le_of_ble_eq_true rfl) (Nat.le_of_ble_eq_true rfl) rfl rfl ?_
    refine P0.b GX11_taken 5 (ob := []) (cf' := (if (0 : Int32) = -1 then 51 else 38, [some (.ref 0), some (.int x), some (.int k), some (.int 0)], [], hC g z w a b)) rfl trivial ?_
    rw [if_neg (show ¬ ((0 : Int32) = -1) from by decide)]
    refine P0.b GX11_taken 3 (ob := []) (cf' := (if 0 = k then 51 else 43, [some (.ref 0), some (.int x), some (.int k), some (.int 0)], [], hC g z w a b)) rfl trivial ?_
    refine P0.if (fun h2 => ?_) (fun h2 => ?_)
    · refine P0.b GX11_taken 3 (ob := []) (cf' := (if 0 = k then 56 else 67, [some (.ref 0), some (.int x), some (.int k), some (.int 0)], [], hC g z w a b)) rfl trivial ?_
      rw [if_pos (show 0 = k from h2)]
      refine P0.b GX11_taken 7 (ob := [vp_in (3 * x) 18]) (cf' := (69, [some (.ref 0), some (.int x), some (.int k), some (.int 0)], [.int ((a 6) (3 * x).toNatClampNeg)], hC g z w a b)) rfl ⟨h18, trivial⟩ ?_
      exact P0.ri (by decide +kernel) rfl rfl ⟨(by rw [if_neg h1, if_pos h2]), rfl⟩
    · refine P0.b GX11_taken 1 (ob := []) (cf' := (44, [some (.ref 0), some (.int x), some (.int k), some (.int 0)], [.int 0], hC g z w a b)) rfl trivial ?_
      refine P0.cr (io := []) (as := [.int 0]) (rest := []) (hc := []) (hc1 := []) (r1 := some (.int (-1))) (st' := [.int (-1)]) (h' := hC g z w a b) (d0 := 0) GX11_over kX11_taken_44 rfl rfl (Nat.le_of_ble_eq_true rfl) (Nat.le_of_ble_eq_true rfl) rfl trivial (over_0) (Nat.le_of_ble_eq_true rfl) rfl (Nat.le_of_ble_eq_true rfl) (Nat.le_of_ble_eq_true rfl) rfl rfl ?_
      refine P0.b GX11_taken 5 (ob := []) (cf' := (if (-1 : Int32) = -1 then 51 else 38, [some (.ref 0), some (.int x), some (.int k), some (.int (-1))], [], hC g z w a b)) rfl trivial ?_
      rw [if_pos (show ((-1 : Int32) = -1) from by decide)]
      refine P0.b GX11_taken 3 (ob := []) (cf' := (if -1 = k then 56 else 67, [some (.ref 0), some (.int x), some (.int k), some (.int (-1))], [], hC g z w a b)) rfl trivial ?_
      rw [if_neg (show ¬ (-1 = k) from fun z => absurd (z ▸ hk.1 : (0 : Int32) ≤ -1) (by decide))]
      refine P0.b GX11_taken 1 (ob := []) (cf' := (69, [some (.ref 0), some (.int x), some (.int k), some (.int (-1))], [.int (-13)], hC g z w a b)) rfl trivial ?_
      exact P0.ri (by decide +kernel) rfl rfl ⟨(by rw [if_neg h1, if_neg h2]), rfl⟩
