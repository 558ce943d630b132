/-! ===== laid by program (wip/tools) ===== -/
set_option maxHeartbeats 1000000 in
theorem copy_bad {g z : Nat → Int32} {w : Int64} {a b : Nat → Nat → Int32} (s x o y n : Int32) (h : ¬ ((0 ≤ s ∧ s ≤ 3) ∧ (0 ≤ o ∧ o ≤ 3))) : P0 2 0 0 mX11_copy (0, ent 9 [.ref 0, .int s, .int x, .int o, .int y, .int n], [], hC g z w a b) (fun r h' => r = some (.int (-2)) ∧ h' = hC g z w a b) := by
  refine P0.b GX11_copy 1 (ob := []) (cf' := (1, [some (.ref 0), some (.int s), some (.int x), some (.int o), some (.int y), some (.int n), none, none, none], [.int s], hC g z w a b)) rfl trivial ?_
  refine P0.cr (io := []) (as := [.int s]) (rest := []) (hc := []) (hc1 := []) (r1 := some (.int (if 0 ≤ s ∧ s ≤ 3 then 1 else 0))) (st' := [.int (if 0 ≤ s ∧ s ≤ 3 then 1 else 0)]) (h' := hC g z w a b) (d0 := 1) GX11_isSheet kX11_copy_1 rfl rfl (Nat.le_of_ble_eq_true rfl) (Nat.le_of_ble_eq_true rfl) rfl trivial (e_X11_isSheet s) (Nat.le_of_ble_eq_true rfl) rfl (Nat.le_of_ble_eq_true rfl) (Nat.le_of_ble_eq_true rfl) rfl rfl ?_
  refine P0.b GX11_copy 1 (ob := []) (cf' := (if (if 0 ≤ s ∧ s ≤ 3 then 1 else 0) = 0 then 14 else 7, [some (.ref 0), some (.int s), some (.int x), some (.int o), some (.int y), some (.int n), none, none, none], [], hC g z w a b)) rfl trivial ?_
  refine P0.ifB (fun h1 => ?_) (fun h1 => ?_)
  · refine P0.b GX11_copy 1 (ob := []) (cf' := (16, [some (.ref 0), some (.int s), some (.int x), some (.int o), some (.int y), some (.int n), none, none, none], [.int (-2)], hC g z w a b)) rfl trivial ?_
    exact P0.ri (by decide +kernel) rfl rfl ⟨rfl, rfl⟩
  · refine P0.b GX11_copy 1 (ob := []) (cf' := (8, [some (.ref 0), some (.int s), some (.int x), some (.int o), some (.int y), some (.int n), none, none, none], [.int o], hC g z w a b)) rfl trivial ?_
    refine P0.cr (io := []) (as := [.int o]) (rest := []) (hc := []) (hc1 := []) (r1 := some (.int (if 0 ≤ o ∧ o ≤ 3 then 1 else 0))) (st' := [.int (if 0 ≤ o ∧ o ≤ 3 then 1 else 0)]) (h' := hC g z w a b) (d0 := 1) GX11_isSheet kX11_copy_8 rfl rfl (Nat.le_of_ble_eq_true rfl) (Nat.le_of_ble_eq_true rfl) rfl trivial (e_X11_isSheet o) (Nat.le_of_ble_eq_true rfl) rfl (Nat.le_of_ble_eq_true rfl) (Nat.le_of_ble_eq_true rfl) rfl rfl ?_
    refine P0.b GX11_copy 1 (ob := []) (cf' := (if (if 0 ≤ o ∧ o ≤ 3 then 1 else 0) = 0 then 14 else 17, [some (.ref 0), some (.int s), some (.int x), some (.int o), some (.int y), some (.int n), none, none, none], [], hC g z w a b)) rfl trivial ?_
    rw [if_neg (show ¬ (0 ≤ o ∧ o ≤ 3) from fun z => h ⟨h1, z⟩), if_pos rfl]
    refine P0.b GX11_copy 1 (ob := []) (cf' := (16, [some (.ref 0), some (.int s), some (.int x), some (.int o), some (.int y), some (.int n), none, none, none], [.int (-2)], hC g z w a b)) rfl trivial ?_
    exact P0.ri (by decide +kernel) rfl rfl ⟨rfl, rfl⟩
set_option maxHeartbeats 1000000 in
theorem copy_none {g z : Nat → Int32} {w : Int64} {a b : Nat → Nat → Int32} {i o : Nat} (hi : i < 4) (ho : o < 4) (x y n : Int32) (h : a 14 i = 0 ∨ a 14 o = 0) : P0 2 0 0 mX11_copy (0, ent 9 [.ref 0, .int (nI i), .int x, .int (nI o), .int y, .int n], [], hC g z w a b) (fun r h' => r = some (.int (-11)) ∧ h' = hC g z w a b) := by
  refine P0.b GX11_copy 1 (ob := []) (cf' := (1, [some (.ref 0), some (.int (nI i)), some (.int x), some (.int (nI o)), some (.int y), some (.int n), none, none, none], [.int (nI i)], hC g z w a b)) rfl trivial ?_
  refine P0.cr (io := []) (as := [.int (nI i)]) (rest := []) (hc := []) (hc1 := []) (r1 := some (.int (if 0 ≤ nI i ∧ nI i ≤ 3 then 1 else 0))) (st' := [.int (if 0 ≤ nI i ∧ nI i ≤ 3 then 1 else 0)]) (h' := hC g z w a b) (d0 := 1) GX11_isSheet kX11_copy_1 rfl rfl (Nat.le_of_ble_eq_true rfl) (Nat.le_of_ble_eq_true rfl) rfl trivial (e_X11_isSheet (nI i)) (Nat.le_of_ble_eq_true rfl) rfl (Nat.le_of_ble_eq_true rfl) (Nat.le_of_ble_eq_true rfl) rfl rfl ?_
  refine P0.b GX11_copy 1 (ob := []) (cf' := (if (if 0 ≤ nI i ∧ nI i ≤ 3 then 1 else 0) = 0 then 14 else 7, [some (.ref 0), some (.int (nI i)), some (.int x), some (.int (nI o)), some (.int y), some (.int n), none, none, none], [], hC g z w a b)) rfl trivial ?_
  rw [if_pos (show 0 ≤ nI i ∧ nI i ≤ 3 from sh_ok hi), if_neg (by decide)]
  refine P0.b GX11_copy 1 (ob := []) (cf' := (8, [some (.ref 0), some (.int (nI i)), some (.int x), some (.int (nI o)), some (.int y), some (.int n), none, none, none], [.int (nI o)], hC g z w a b)) rfl trivial ?_
  refine P0.cr (io := []) (as := [.int (nI o)]) (rest := []) (hc := []) (hc1 := []) (r1 := some (.int (if 0 ≤ nI o ∧ nI o ≤ 3 then 1 else 0))) (st' := [.int (if 0 ≤ nI o ∧ nI o ≤ 3 then 1 else 0)]) (h' := hC g z w a b) (d0 := 1) GX11_isSheet kX11_copy_8 rfl rfl (Nat.le_of_ble_eq_true rfl) (Nat.le_of_ble_eq_true rfl) rfl trivial (e_X11_isSheet (nI o)) (Nat.le_of_ble_eq_true rfl) rfl (Nat.le_of_ble_eq_true rfl) (Nat.le_of_ble_eq_true rfl) rfl rfl ?_
  refine P0.b GX11_copy 1 (ob := []) (cf' := (if (if 0 ≤ nI o ∧ nI o ≤ 3 then 1 else 0) = 0 then 14 else 17, [some (.ref 0), some (.int (nI i)), some (.int x), some (.int (nI o)), some (.int y), some (.int n), none, none, none], [], hC g z w a b)) rfl trivial ?_
  rw [if_pos (show 0 ≤ nI o ∧ nI o ≤ 3 from sh_ok ho), if_neg (by decide)]
  refine P0.b GX11_copy 5 (ob := [vp_in (nI i) 4]) (cf' := (if (a 14) (nI i).toNatClampNeg = 0 then 35 else 26, [some (.ref 0), some (.int (nI i)), some (.int x), some (.int (nI o)), some (.int y), some (.int n), none, none, none], [], hC g z w a b)) rfl ⟨(nI_vp hi (by decide)), trivial⟩ ?_
  rw [show (nI i).toNatClampNeg = i from nI_clamp (by omega)]
  refine P0.if (fun h1 => ?_) (fun h1 => ?_)
  · refine P0.b GX11_copy 1 (ob := []) (cf' := (37, [some (.ref 0), some (.int (nI i)), some (.int x), some (.int (nI o)), some (.int y), some (.int n), none, none, none], [.int (-11)], hC g z w a b)) rfl trivial ?_
    exact P0.ri (by decide +kernel) rfl rfl ⟨rfl, rfl⟩
  · refine P0.b GX11_copy 5 (ob := [vp_in (nI o) 4]) (cf' := (if (a 14) (nI o).toNatClampNeg = 0 then 35 else 38, [some (.ref 0), some (.int (nI i)), some (.int x), some (.int (nI o)), some (.int y), some (.int n), none, none, none], [], hC g z w a b)) rfl ⟨(nI_vp ho (by decide)), trivial⟩ ?_
    rw [show (nI o).toNatClampNeg = o from nI_clamp (by omega)]
    rw [if_pos (show (a 14) o = 0 from h.resolve_left h1)]
    refine P0.b GX11_copy 1 (ob := []) (cf' := (37, [some (.ref 0), some (.int (nI i)), some (.int x), some (.int (nI o)), some (.int y), some (.int n), none, none, none], [.int (-11)], hC g z w a b)) rfl trivial ?_
    exact P0.ri (by decide +kernel) rfl rfl ⟨rfl, rfl⟩
set_option maxHeartbeats 1000000 in
theorem copy_unlike {g z : Nat → Int32} {w : Int64} {a b : Nat → Nat → Int32} {i o : Nat} (hi : i < 4) (ho : o < 4) (x y n : Int32) (ht : ¬ (a 14 i = 0 ∨ a 14 o = 0)) (h : ¬ a 15 i = a 15 o) : P0 2 0 0 mX11_copy (0, ent 9 [.ref 0, .int (nI i), .int x, .int (nI o), .int y, .int n], [], hC g z w a b) (fun r h' => r = some (.int (-13)) ∧ h' = hC g z w a b) := by
  refine P0.b GX11_copy 1 (ob := []) (cf' := (1, [some (.ref 0), some (.int (nI i)), some (.int x), some (.int (nI o)), some (.int y), some (.int n), none, none, none], [.int (nI i)], hC g z w a b)) rfl trivial ?_
  refine P0.cr (io := []) (as := [.int (nI i)]) (rest := []) (hc := []) (hc1 := []) (r1 := some (.int (if 0 ≤ nI i ∧ nI i ≤ 3 then 1 else 0))) (st' := [.int (if 0 ≤ nI i ∧ nI i ≤ 3 then 1 else 0)]) (h' := hC g z w a b) (d0 := 1) GX11_isSheet kX11_copy_1 rfl rfl (Nat.le_of_ble_eq_true rfl) (Nat.le_of_ble_eq_true rfl) rfl trivial (e_X11_isSheet (nI i)) (Nat.le_of_ble_eq_true rfl) rfl (Nat.le_of_ble_eq_true rfl) (Nat.le_of_ble_eq_true rfl) rfl rfl ?_
  refine P0.b GX11_copy 1 (ob := []) (cf' := (if (if 0 ≤ nI i ∧ nI i ≤ 3 then 1 else 0) = 0 then 14 else 7, [some (.ref 0), some (.int (nI i)), some (.int x), some (.int (nI o)), some (.int y), some (.int n), none, none, none], [], hC g z w a b)) rfl trivial ?_
  rw [if_pos (show 0 ≤ nI i ∧ nI i ≤ 3 from sh_ok hi), if_neg (by decide)]
  refine P0.b GX11_copy 1 (ob := []) (cf' := (8, [some (.ref 0), some (.int (nI i)), some (.int x), some (.int (nI o)), some (.int y), some (.int n), none, none, none], [.int (nI o)], hC g z w a b)) rfl trivial ?_
  refine P0.cr (io := []) (as := [.int (nI o)]) (rest := []) (hc := []) (hc1 := []) (r1 := some (.int (if 0 ≤ nI o ∧ nI o ≤ 3 then 1 else 0))) (st' := [.int (if 0 ≤ nI o ∧ nI o ≤ 3 then 1 else 0)]) (h' := hC g z w a b) (d0 := 1) GX11_isSheet kX11_copy_8 rfl rfl (Nat.le_of_ble_eq_true rfl) (Nat.le_of_ble_eq_true rfl) rfl trivial (e_X11_isSheet (nI o)) (Nat.le_of_ble_eq_true rfl) rfl (Nat.le_of_ble_eq_true rfl) (Nat.le_of_ble_eq_true rfl) rfl rfl ?_
  refine P0.b GX11_copy 1 (ob := []) (cf' := (if (if 0 ≤ nI o ∧ nI o ≤ 3 then 1 else 0) = 0 then 14 else 17, [some (.ref 0), some (.int (nI i)), some (.int x), some (.int (nI o)), some (.int y), some (.int n), none, none, none], [], hC g z w a b)) rfl trivial ?_
  rw [if_pos (show 0 ≤ nI o ∧ nI o ≤ 3 from sh_ok ho), if_neg (by decide)]
  refine P0.b GX11_copy 5 (ob := [vp_in (nI i) 4]) (cf' := (if (a 14) (nI i).toNatClampNeg = 0 then 35 else 26, [some (.ref 0), some (.int (nI i)), some (.int x), some (.int (nI o)), some (.int y), some (.int n), none, none, none], [], hC g z w a b)) rfl ⟨(nI_vp hi (by decide)), trivial⟩ ?_
  rw [show (nI i).toNatClampNeg = i from nI_clamp (by omega)]
  rw [if_neg (show ¬ ((a 14) i = 0) from fun z => ht (.inl z))]
  refine P0.b GX11_copy 5 (ob := [vp_in (nI o) 4]) (cf' := (if (a 14) (nI o).toNatClampNeg = 0 then 35 else 38, [some (.ref 0), some (.int (nI i)), some (.int x), some (.int (nI o)), some (.int y), some (.int n), none, none, none], [], hC g z w a b)) rfl ⟨(nI_vp ho (by decide)), trivial⟩ ?_
  rw [show (nI o).toNatClampNeg = o from nI_clamp (by omega)]
  rw [if_neg (show ¬ ((a 14) o = 0) from fun z => ht (.inr z))]
  refine P0.b GX11_copy 8 (ob := [vp_in (nI i) 4, vp_in (nI o) 4]) (cf' := (50, [some (.ref 0), some (.int (nI i)), some (.int x), some (.int (nI o)), some (.int y), some (.int n), none, none, none], [.int ((a 15) (nI o).toNatClampNeg), .int ((a 15) (nI i).toNatClampNeg)], hC g z w a b)) rfl ⟨(nI_vp hi (by decide)), (nI_vp ho (by decide)), trivial⟩ ?_
  rw [show (nI o).toNatClampNeg = o from nI_clamp (by omega)]
  rw [show (nI i).toNatClampNeg = i from nI_clamp (by omega)]
  refine P0.b GX11_copy 1 (ob := []) (cf' := (if (a 15) i = (a 15) o then 56 else 53, [some (.ref 0), some (.int (nI i)), some (.int x), some (.int (nI o)), some (.int y), some (.int n), none, none, none], [], hC g z w a b)) rfl trivial ?_
  rw [if_neg (show ¬ ((a 15) i = (a 15) o) from h)]
  refine P0.b GX11_copy 1 (ob := []) (cf' := (55, [some (.ref 0), some (.int (nI i)), some (.int x), some (.int (nI o)), some (.int y), some (.int n), none, none, none], [.int (-13)], hC g z w a b)) rfl trivial ?_
  exact P0.ri (by decide +kernel) rfl rfl ⟨rfl, rfl⟩
set_option maxHeartbeats 1000000 in
theorem copy_out {g z : Nat → Int32} {w : Int64} {a b : Nat → Nat → Int32} {i o : Nat} (hi : i < 4) (ho : o < 4) (x y n : Int32) (ht : ¬ (a 14 i = 0 ∨ a 14 o = 0)) (hs : a 15 i = a 15 o) (h : n < 0 ∨ x < 0 ∨ y < 0 ∨ a 16 i - n < x ∨ a 16 o - n < y) : P0 2 0 0 mX11_copy (0, ent 9 [.ref 0, .int (nI i), .int x, .int (nI o), .int y, .int n], [], hC g z w a b) (fun r h' => r = some (.int (-12)) ∧ h' = hC g z w a b) := by
  refine P0.b GX11_copy 1 (ob := []) (cf' := (1, [some (.ref 0), some (.int (nI i)), some (.int x), some (.int (nI o)), some (.int y), some (.int n), none, none, none], [.int (nI i)], hC g z w a b)) rfl trivial ?_
  refine P0.cr (io := []) (as := [.int (nI i)]) (rest := []) (hc := []) (hc1 := []) (r1 := some (.int (if 0 ≤ nI i ∧ nI i ≤ 3 then 1 else 0))) (st' := [.int (if 0 ≤ nI i ∧ nI i ≤ 3 then 1 else 0)]) (h' := hC g z w a b) (d0 := 1) GX11_isSheet kX11_copy_1 rfl rfl (Nat.le_of_ble_eq_true rfl) (Nat.le_of_ble_eq_true rfl) rfl trivial (e_X11_isSheet (nI i)) (Nat.le_of_ble_eq_true rfl) rfl (Nat.le_of_ble_eq_true rfl) (Nat.le_of_ble_eq_true rfl) rfl rfl ?_
  refine P0.b GX11_copy 1 (ob := []) (cf' := (if (if 0 ≤ nI i ∧ nI i ≤ 3 then 1 else 0) = 0 then 14 else 7, [some (.ref 0), some (.int (nI i)), some (.int x), some (.int (nI o)), some (.int y), some (.int n), none, none, none], [], hC g z w a b)) rfl trivial ?_
  rw [if_pos (show 0 ≤ nI i ∧ nI i ≤ 3 from sh_ok hi), if_neg (by decide)]
  refine P0.b GX11_copy 1 (ob := []) (cf' := (8, [some (.ref 0), some (.int (nI i)), some (.int x), some (.int (nI o)), some (.int y), some (.int n), none, none, none], [.int (nI o)], hC g z w a b)) rfl trivial ?_
  refine P0.cr (io := []) (as := [.int (nI o)]) (rest := []) (hc := []) (hc1 := []) (r1 := some (.int (if 0 ≤ nI o ∧ nI o ≤ 3 then 1 else 0))) (st' := [.int (if 0 ≤ nI o ∧ nI o ≤ 3 then 1 else 0)]) (h' := hC g z w a b) (d0 := 1) GX11_isSheet kX11_copy_8 rfl rfl (Nat.le_of_ble_eq_true rfl) (Nat.le_of_ble_eq_true rfl) rfl trivial (e_X11_isSheet (nI o)) (Nat.le_of_ble_eq_true rfl) rfl (Nat.le_of_ble_eq_true rfl) (Nat.le_of_ble_eq_true rfl) rfl rfl ?_
  refine P0.b GX11_copy 1 (ob := []) (cf' := (if (if 0 ≤ nI o ∧ nI o ≤ 3 then 1 else 0) = 0 then 14 else 17, [some (.ref 0), some (.int (nI i)), some (.int x), some (.int (nI o)), some (.int y), some (.int n), none, none, none], [], hC g z w a b)) rfl trivial ?_
  rw [if_pos (show 0 ≤ nI o ∧ nI o ≤ 3 from sh_ok ho), if_neg (by decide)]
  refine P0.b GX11_copy 5 (ob := [vp_in (nI i) 4]) (cf' := (if (a 14) (nI i).toNatClampNeg = 0 then 35 else 26, [some (.ref 0), some (.int (nI i)), some (.int x), some (.int (nI o)), some (.int y), some (.int n), none, none, none], [], hC g z w a b)) rfl ⟨(nI_vp hi (by decide)), trivial⟩ ?_
  rw [show (nI i).toNatClampNeg = i from nI_clamp (by omega)]
  rw [if_neg (show ¬ ((a 14) i = 0) from fun z => ht (.inl z))]
  refine P0.b GX11_copy 5 (ob := [vp_in (nI o) 4]) (cf' := (if (a 14) (nI o).toNatClampNeg = 0 then 35 else 38, [some (.ref 0), some (.int (nI i)), some (.int x), some (.int (nI o)), some (.int y), some (.int n), none, none, none], [], hC g z w a b)) rfl ⟨(nI_vp ho (by decide)), trivial⟩ ?_
  rw [show (nI o).toNatClampNeg = o from nI_clamp (by omega)]
  rw [if_neg (show ¬ ((a 14) o = 0) from fun z => ht (.inr z))]
  refine P0.b GX11_copy 8 (ob := [vp_in (nI i) 4, vp_in (nI o) 4]) (cf' := (50, [some (.ref 0), some (.int (nI i)), some (.int x), some (.int (nI o)), some (.int y), some (.int n), none, none, none], [.int ((a 15) (nI o).toNatClampNeg), .int ((a 15) (nI i).toNatClampNeg)], hC g z w a b)) rfl ⟨(nI_vp hi (by decide)), (nI_vp ho (by decide)), trivial⟩ ?_
  rw [show (nI o).toNatClampNeg = o from nI_clamp (by omega)]
  rw [show (nI i).toNatClampNeg = i from nI_clamp (by omega)]
  refine P0.b GX11_copy 1 (ob := []) (cf' := (if (a 15) i = (a 15) o then 56 else 53, [some (.ref 0), some (.int (nI i)), some (.int x), some (.int (nI o)), some (.int y), some (.int n), none, none, none], [], hC g z w a b)) rfl trivial ?_
  rw [if_pos (show (a 15) i = (a 15) o from hs)]
  refine P0.b GX11_copy 2 (ob := []) (cf' := (if n < 0 then 97 else 61, [some (.ref 0), some (.int (nI i)), some (.int x), some (.int (nI o)), some (.int y), some (.int n), none, none, none], [], hC g z w a b)) rfl trivial ?_
  refine P0.if (fun h1 => ?_) (fun h1 => ?_)
  · refine P0.b GX11_copy 1 (ob := []) (cf' := (99, [some (.ref 0), some (.int (nI i)), some (.int x), some (.int (nI o)), some (.int y), some (.int n), none, none, none], [.int (-12)], hC g z w a b)) rfl trivial ?_
    exact P0.ri (by decide +kernel) rfl rfl ⟨rfl, rfl⟩
  · refine P0.b GX11_copy 2 (ob := []) (cf' := (if x < 0 then 97 else 65, [some (.ref 0), some (.int (nI i)), some (.int x), some (.int (nI o)), some (.int y), some (.int n), none, none, none], [], hC g z w a b)) rfl trivial ?_
    refine P0.if (fun h2 => ?_) (fun h2 => ?_)
    · refine P0.b GX11_copy 1 (ob := []) (cf' := (99, [some (.ref 0), some (.int (nI i)), some (.int x), some (.int (nI o)), some (.int y), some (.int n), none, none, none], [.int (-12)], hC g z w a b)) rfl trivial ?_
      exact P0.ri (by decide +kernel) rfl rfl ⟨rfl, rfl⟩
    · refine P0.b GX11_copy 2 (ob := []) (cf' := (if y < 0 then 97 else 70, [some (.ref 0), some (.int (nI i)), some (.int x), some (.int (nI o)), some (.int y), some (.int n), none, none, none], [], hC g z w a b)) rfl trivial ?_
      refine P0.if (fun h3 => ?_) (fun h3 => ?_)
      · refine P0.b GX11_copy 1 (ob := []) (cf' := (99, [some (.ref 0), some (.int (nI i)), some (.int x), some (.int (nI o)), some (.int y), some (.int n), none, none, none], [.int (-12)], hC g z w a b)) rfl trivial ?_
        exact P0.ri (by decide +kernel) rfl rfl ⟨rfl, rfl⟩
      · refine P0.b GX11_copy 8 (ob := [vp_in (nI i) 4]) (cf' := (if ((a 16) (nI i).toNatClampNeg) - n < x then 97 else 83, [some (.ref 0), some (.int (nI i)), some (.int x), some (.int (nI o)), some (.int y), some (.int n), none, none, none], [], hC g z w a b)) rfl ⟨(nI_vp hi (by decide)), trivial⟩ ?_
        rw [show (nI i).toNatClampNeg = i from nI_clamp (by omega)]
        refine P0.if (fun h4 => ?_) (fun h4 => ?_)
        · refine P0.b GX11_copy 1 (ob := []) (cf' := (99, [some (.ref 0), some (.int (nI i)), some (.int x), some (.int (nI o)), some (.int y), some (.int n), none, none, none], [.int (-12)], hC g z w a b)) rfl trivial ?_
          exact P0.ri (by decide +kernel) rfl rfl ⟨rfl, rfl⟩
        · refine P0.b GX11_copy 8 (ob := [vp_in (nI o) 4]) (cf' := (if y ≤ ((a 16) (nI o).toNatClampNeg) - n then 100 else 97, [some (.ref 0), some (.int (nI i)), some (.int x), some (.int (nI o)), some (.int y), some (.int n), none, none, none], [], hC g z w a b)) rfl ⟨(nI_vp ho (by decide)), trivial⟩ ?_
          rw [show (nI o).toNatClampNeg = o from nI_clamp (by omega)]
          rw [if_neg (show ¬ (y ≤ ((a 16) o) - n) from Int32.not_le.mpr ((((h.resolve_left h1).resolve_left h2).resolve_left h3).resolve_left h4))]
          refine P0.b GX11_copy 1 (ob := []) (cf' := (99, [some (.ref 0), some (.int (nI i)), some (.int x), some (.int (nI o)), some (.int y), some (.int n), none, none, none], [.int (-12)], hC g z w a b)) rfl trivial ?_
          exact P0.ri (by decide +kernel) rfl rfl ⟨rfl, rfl⟩
set_option maxHeartbeats 1000000 in
theorem copy_ne {g z : Nat → Int32} {w : Int64} {a b : Nat → Nat → Int32} {i p q n si o sj : Nat} (hi : i < 4) (ho : o < 4) (hio : i ≠ o) (ht : ¬ a 14 i = 0) (hto : ¬ a 14 o = 0) (hs : a 15 i = a 15 o) (hzi : a 16 i = nI si) (hzo : a 16 o = nI sj) (hsi : si ≤ 40) (hsj : sj ≤ 40) (hpi : p + n ≤ si) (hqo : q + n ≤ sj) : P0 2 0 0 mX11_copy (0, ent 9 [.ref 0, .int (nI i), .int (nI p), .int (nI o), .int (nI q), .int (nI n)], [], hC g z w a b) (fun r h' => r = some (.int (nI n)) ∧ h' = hC g z w (up2 a 17 (va_cpy (a 17) (a 17) (40 * i + p) (40 * o + q) n)) b) := by
  refine P0.b GX11_copy 1 (ob := []) (cf' := (1, [some (.ref 0), some (.int (nI i)), some (.int (nI p)), some (.int (nI o)), some (.int (nI q)), some (.int (nI n)), none, none, none], [.int (nI i)], hC g z w a b)) rfl trivial ?_
  refine P0.cr (io := []) (as := [.int (nI i)]) (rest := []) (hc := []) (hc1 := []) (r1 := some (.int (if 0 ≤ nI i ∧ nI i ≤ 3 then 1 else 0))) (st' := [.int (if 0 ≤ nI i ∧ nI i ≤ 3 then 1 else 0)]) (h' := hC g z w a b) (d0 := 1) GX11_isSheet kX11_copy_1 rfl rfl (Nat.le_of_ble_eq_true rfl) (Nat.le_of_ble_eq_true rfl) rfl trivial (e_X11_isSheet (nI i)) (Nat.le_of_ble_eq_true rfl) rfl (Nat.le_of_ble_eq_true rfl) (Nat.le_of_ble_eq_true rfl) rfl rfl ?_
  refine P0.b GX11_copy 1 (ob := []) (cf' := (if (if 0 ≤ nI i ∧ nI i ≤ 3 then 1 else 0) = 0 then 14 else 7, [some (.ref 0), some (.int (nI i)), some (.int (nI p)), some (.int (nI o)), some (.int (nI q)), some (.int (nI n)), none, none, none], [], hC g z w a b)) rfl trivial ?_
  rw [if_pos (show 0 ≤ nI i ∧ nI i ≤ 3 from sh_ok hi), if_neg (by decide)]
  refine P0.b GX11_copy 1 (ob := []) (cf' := (8, [some (.ref 0), some (.int (nI i)), some (.int (nI p)), some (.int (nI o)), some (.int (nI q)), some (.int (nI n)), none, none, none], [.int (nI o)], hC g z w a b)) rfl trivial ?_
  refine P0.cr (io := []) (as := [.int (nI o)]) (rest := []) (hc := []) (hc1 := []) (r1 := some (.int (if 0 ≤ nI o ∧ nI o ≤ 3 then 1 else 0))) (st' := [.int (if 0 ≤ nI o ∧ nI o ≤ 3 then 1 else 0)]) (h' := hC g z w a b) (d0 := 1) GX11_isSheet kX11_copy_8 rfl rfl (Nat.le_of_ble_eq_true rfl) (Nat.le_of_ble_eq_true rfl) rfl trivial (e_X11_isSheet (nI o)) (Nat.le_of_ble_eq_true rfl) rfl (Nat.le_of_ble_eq_true rfl) (Nat.le_of_ble_eq_true rfl) rfl rfl ?_
  refine P0.b GX11_copy 1 (ob := []) (cf' := (if (if 0 ≤ nI o ∧ nI o ≤ 3 then 1 else 0) = 0 then 14 else 17, [some (.ref 0), some (.int (nI i)), some (.int (nI p)), some (.int (nI o)), some (.int (nI q)), some (.int (nI n)), none, none, none], [], hC g z w a b)) rfl trivial ?_
  rw [if_pos (show 0 ≤ nI o ∧ nI o ≤ 3 from sh_ok ho), if_neg (by decide)]
  refine P0.b GX11_copy 3 (ob := []) (cf' := (22, [some (.ref 0), some (.int (nI i)), some (.int (nI p)), some (.int (nI o)), some (.int (nI q)), some (.int (nI n)), none, none, none], [.int (nI i), .ref 14], hC g z w a b)) rfl trivial ?_
  refine P0.b GX11_copy 2 (ob := [vp_in (nI i) 4]) (cf' := (if (a 14) (nI i).toNatClampNeg = 0 then 35 else 26, [some (.ref 0), some (.int (nI i)), some (.int (nI p)), some (.int (nI o)), some (.int (nI q)), some (.int (nI n)), none, none, none], [], hC g z w a b)) rfl ⟨(nI_vp hi (by decide)), trivial⟩ ?_
  rw [show (nI i).toNatClampNeg = i from nI_clamp (by omega)]
  rw [if_neg (show ¬ ((a 14) i = 0) from ht)]
  refine P0.b GX11_copy 3 (ob := []) (cf' := (31, [some (.ref 0), some (.int (nI i)), some (.int (nI p)), some (.int (nI o)), some (.int (nI q)), some (.int (nI n)), none, none, none], [.int (nI o), .ref 14], hC g z w a b)) rfl trivial ?_
  refine P0.b GX11_copy 2 (ob := [vp_in (nI o) 4]) (cf' := (if (a 14) (nI o).toNatClampNeg = 0 then 35 else 38, [some (.ref 0), some (.int (nI i)), some (.int (nI p)), some (.int (nI o)), some (.int (nI q)), some (.int (nI n)), none, none, none], [], hC g z w a b)) rfl ⟨(nI_vp ho (by decide)), trivial⟩ ?_
  rw [show (nI o).toNatClampNeg = o from nI_clamp (by omega)]
  rw [if_neg (show ¬ ((a 14) o = 0) from hto)]
  refine P0.b GX11_copy 3 (ob := []) (cf' := (43, [some (.ref 0), some (.int (nI i)), some (.int (nI p)), some (.int (nI o)), some (.int (nI q)), some (.int (nI n)), none, none, none], [.int (nI i), .ref 15], hC g z w a b)) rfl trivial ?_
  refine P0.b GX11_copy 4 (ob := [vp_in (nI i) 4]) (cf' := (49, [some (.ref 0), some (.int (nI i)), some (.int (nI p)), some (.int (nI o)), some (.int (nI q)), some (.int (nI n)), none, none, none], [.int (nI o), .ref 15, .int ((a 15) (nI i).toNatClampNeg)], hC g z w a b)) rfl ⟨(nI_vp hi (by decide)), trivial⟩ ?_
  rw [show (nI i).toNatClampNeg = i from nI_clamp (by omega)]
  refine P0.b GX11_copy 2 (ob := [vp_in (nI o) 4]) (cf' := (if (a 15) i = (a 15) (nI o).toNatClampNeg then 56 else 53, [some (.ref 0), some (.int (nI i)), some (.int (nI p)), some (.int (nI o)), some (.int (nI q)), some (.int (nI n)), none, none, none], [], hC g z w a b)) rfl ⟨(nI_vp ho (by decide)), trivial⟩ ?_
  rw [show (nI o).toNatClampNeg = o from nI_clamp (by omega)]
  rw [if_pos (show (a 15) i = (a 15) o from hs)]
  refine P0.b GX11_copy 2 (ob := []) (cf' := (if nI n < 0 then 97 else 61, [some (.ref 0), some (.int (nI i)), some (.int (nI p)), some (.int (nI o)), some (.int (nI q)), some (.int (nI n)), none, none, none], [], hC g z w a b)) rfl trivial ?_
  rw [if_neg (show ¬ (nI n < 0) from nI_pos (by omega))]
  refine P0.b GX11_copy 2 (ob := []) (cf' := (if nI p < 0 then 97 else 65, [some (.ref 0), some (.int (nI i)), some (.int (nI p)), some (.int (nI o)), some (.int (nI q)), some (.int (nI n)), none, none, none], [], hC g z w a b)) rfl trivial ?_
  rw [if_neg (show ¬ (nI p < 0) from nI_pos (by omega))]
  refine P0.b GX11_copy 2 (ob := []) (cf' := (if nI q < 0 then 97 else 70, [some (.ref 0), some (.int (nI i)), some (.int (nI p)), some (.int (nI o)), some (.int (nI q)), some (.int (nI n)), none, none, none], [], hC g z w a b)) rfl trivial ?_
  rw [if_neg (show ¬ (nI q < 0) from nI_pos (by omega))]
  refine P0.b GX11_copy 4 (ob := []) (cf' := (76, [some (.ref 0), some (.int (nI i)), some (.int (nI p)), some (.int (nI o)), some (.int (nI q)), some (.int (nI n)), none, none, none], [.int (nI i), .ref 16, .int (nI p)], hC g z w a b)) rfl trivial ?_
  refine P0.b GX11_copy 4 (ob := [vp_in (nI i) 4]) (cf' := (if ((a 16) (nI i).toNatClampNeg) - (nI n) < nI p then 97 else 83, [some (.ref 0), some (.int (nI i)), some (.int (nI p)), some (.int (nI o)), some (.int (nI q)), some (.int (nI n)), none, none, none], [], hC g z w a b)) rfl ⟨(nI_vp hi (by decide)), trivial⟩ ?_
  rw [show (nI i).toNatClampNeg = i from nI_clamp (by omega)]
  rw [if_neg (show ¬ (((a 16) i) - (nI n) < nI p) from by rw [hzi, pk_sub (by omega)]; exact nI_nlt (by omega) (by omega))]
  refine P0.b GX11_copy 4 (ob := []) (cf' := (90, [some (.ref 0), some (.int (nI i)), some (.int (nI p)), some (.int (nI o)), some (.int (nI q)), some (.int (nI n)), none, none, none], [.int (nI o), .ref 16, .int (nI q)], hC g z w a b)) rfl trivial ?_
  refine P0.b GX11_copy 4 (ob := [vp_in (nI o) 4]) (cf' := (if nI q ≤ ((a 16) (nI o).toNatClampNeg) - (nI n) then 100 else 97, [some (.ref 0), some (.int (nI i)), some (.int (nI p)), some (.int (nI o)), some (.int (nI q)), some (.int (nI n)), none, none, none], [], hC g z w a b)) rfl ⟨(nI_vp ho (by decide)), trivial⟩ ?_
  rw [show (nI o).toNatClampNeg = o from nI_clamp (by omega)]
  rw [if_pos (show nI q ≤ ((a 16) o) - (nI n) from by rw [hzo, pk_sub (by omega)]; exact nI_le (by omega) (by omega))]
  refine P0.b GX11_copy 3 (ob := []) (cf' := (if nI i = nI o then 105 else 115, [some (.ref 0), some (.int (nI i)), some (.int (nI p)), some (.int (nI o)), some (.int (nI q)), some (.int (nI n)), none, none, none], [], hC g z w a b)) rfl trivial ?_
  rw [if_neg (show ¬ (nI i = nI o) from fun z => hio ((nI_eq (by omega) (by omega)).mp z))]
  refine P0.b GX11_copy 4 (ob := []) (cf' := (121, [some (.ref 0), some (.int (nI i)), some (.int (nI p)), some (.int (nI o)), some (.int (nI q)), some (.int (nI n)), some (.int 0), some (.int 0), none], [], hC g z w a b)) rfl trivial ?_
  rw [show hC g z w a b = hC g z w (up2 a 17 (a 17)) b from by rw [up2_self]]
  refine P0.loopI (N := n) (fun k v => v = va_cpy (a 17) (a 17) (40 * i + p) (40 * o + q) k) (fun x90 v90 => (121, [some (.ref 0), some (.int (nI i)), some (.int (nI p)), some (.int (nI o)), some (.int (nI q)), some (.int (nI n)), some (.int 0), some (.int x90), none], [], hC g z w (up2 a 17 v90) b)) (fun i90 v90 hi90 hI90 hk90 => ?_) (fun v90 hI90 => ?_) 0 (a 17) nI_0.symm cp_0
  · show P0 _ _ _ _ (121, [some (.ref 0), some (.int (nI i)), some (.int (nI p)), some (.int (nI o)), some (.int (nI q)), some (.int (nI n)), some (.int 0), some (.int (nI i90)), none], [], hC g z w (up2 a 17 v90) b) _
    refine P0.b GX11_copy 3 (ob := []) (cf' := (if nI n ≤ nI i90 then 182 else 128, [some (.ref 0), some (.int (nI i)), some (.int (nI p)), some (.int (nI o)), some (.int (nI q)), some (.int (nI n)), some (.int 0), some (.int (nI i90)), none], [], hC g z w (up2 a 17 v90) b)) rfl trivial ?_
    rw [if_neg (show ¬ (nI n ≤ nI i90) from nI_ge hi90 (by omega))]
    refine P0.b GX11_copy 2 (ob := []) (cf' := (if (0 : Int32) = 0 then 143 else 133, [some (.ref 0), some (.int (nI i)), some (.int (nI p)), some (.int (nI o)), some (.int (nI q)), some (.int (nI n)), some (.int 0), some (.int (nI i90)), none], [], hC g z w (up2 a 17 v90) b)) rfl trivial ?_
    rw [if_pos (show ((0 : Int32) = 0) from by decide)]
    refine P0.b GX11_copy 8 (ob := []) (cf' := (157, [some (.ref 0), some (.int (nI i)), some (.int (nI p)), some (.int (nI o)), some (.int (nI q)), some (.int (nI n)), some (.int 0), some (.int (nI i90)), some (.int (nI i90))], [.int (nI q), .int (40 * (nI o)), .ref 17], hC g z w (up2 a 17 v90) b)) rfl trivial ?_
    rw [show (40 * (nI o) : Int32) = nI (40 * o) from pk_mul _ _]
    refine P0.b GX11_copy 8 (ob := []) (cf' := (169, [some (.ref 0), some (.int (nI i)), some (.int (nI p)), some (.int (nI o)), some (.int (nI q)), some (.int (nI n)), some (.int 0), some (.int (nI i90)), some (.int (nI i90))], [.int (40 * (nI i)), .ref 17, .int (((nI (40 * o)) + (nI q)) + (nI i90)), .ref 17], hC g z w (up2 a 17 v90) b)) rfl trivial ?_
    rw [show (40 * (nI i) : Int32) = nI (40 * i) from pk_mul _ _]
    rw [show (nI (40 * o)) + (nI q) = nI ((40 * o) + q) from nI_add _ _]
    rw [show (nI ((40 * o) + q)) + (nI i90) = nI (((40 * o) + q) + i90) from nI_add _ _]
    refine P0.b GX11_copy 4 (ob := []) (cf' := (174, [some (.ref 0), some (.int (nI i)), some (.int (nI p)), some (.int (nI o)), some (.int (nI q)), some (.int (nI n)), some (.int 0), some (.int (nI i90)), some (.int (nI i90))], [.int (((nI (40 * i)) + (nI p)) + (nI i90)), .ref 17, .int (nI (((40 * o) + q) + i90)), .ref 17], hC g z w (up2 a 17 v90) b)) rfl trivial ?_
    rw [show (nI (40 * i)) + (nI p) = nI ((40 * i) + p) from nI_add _ _]
    rw [show (nI ((40 * i) + p)) + (nI i90) = nI (((40 * i) + p) + i90) from nI_add _ _]
    refine P0.b GX11_copy 1 (ob := [vp_in (nI (((40 * i) + p) + i90)) 160]) (cf' := (175, [some (.ref 0), some (.int (nI i)), some (.int (nI p)), some (.int (nI o)), some (.int (nI q)), some (.int (nI n)), some (.int 0), some (.int (nI i90)), some (.int (nI i90))], [.int (v90 (nI (((40 * i) + p) + i90)).toNatClampNeg), .int (nI (((40 * o) + q) + i90)), .ref 17], hC g z w (up2 a 17 v90) b)) rfl ⟨(nI_vp (by omega) (by decide)), trivial⟩ ?_
    rw [show (nI (((40 * i) + p) + i90)).toNatClampNeg = (((40 * i) + p) + i90) from nI_clamp (by omega)]
    refine P0.b GX11_copy 1 (ob := [vp_in (nI (((40 * o) + q) + i90)) 160]) (cf' := (176, [some (.ref 0), some (.int (nI i)), some (.int (nI p)), some (.int (nI o)), some (.int (nI q)), some (.int (nI n)), some (.int 0), some (.int (nI i90)), some (.int (nI i90))], [], hC g z w (up2 a 17 (upd v90 (nI (((40 * o) + q) + i90)).toNatClampNeg (v90 (((40 * i) + p) + i90)))) b)) rfl ⟨(nI_vp (by omega) (by decide)), trivial⟩ ?_
    rw [show (nI (((40 * o) + q) + i90)).toNatClampNeg = (((40 * o) + q) + i90) from nI_clamp (by omega)]
    refine P0.b GX11_copy 2 (ob := []) (cf' := (121, [some (.ref 0), some (.int (nI i)), some (.int (nI p)), some (.int (nI o)), some (.int (nI q)), some (.int (nI n)), some (.int 0), some (.int ((nI i90) + 1)), some (.int (nI i90))], [], hC g z w (up2 a 17 (upd v90 (((40 * o) + q) + i90) (v90 (((40 * i) + p) + i90)))) b)) rfl trivial ?_
    rw [show (nI i90) + 1 = nI (i90 + 1) from nI_add _ _]
    refine P0.forget (ls' := [some (.ref 0), some (.int (nI i)), some (.int (nI p)), some (.int (nI o)), some (.int (nI q)), some (.int (nI n)), some (.int 0), some (.int (nI (i90 + 1))), none]) ⟨.inr rfl, .inr rfl, .inr rfl, .inr rfl, .inr rfl, .inr rfl, .inr rfl, .inr rfl, .inl rfl, trivial⟩ ?_
    exact hk90 _ (upd v90 (((40 * o) + q) + i90) (v90 (((40 * i) + p) + i90))) rfl (by rw [hI90]; exact cp_up (by omega))
  · show P0 _ _ _ _ (121, [some (.ref 0), some (.int (nI i)), some (.int (nI p)), some (.int (nI o)), some (.int (nI q)), some (.int (nI n)), some (.int 0), some (.int (nI n)), none], [], hC g z w (up2 a 17 v90) b) _
    refine P0.b GX11_copy 3 (ob := []) (cf' := (if nI n ≤ nI n then 182 else 128, [some (.ref 0), some (.int (nI i)), some (.int (nI p)), some (.int (nI o)), some (.int (nI q)), some (.int (nI n)), some (.int 0), some (.int (nI n)), none], [], hC g z w (up2 a 17 v90) b)) rfl trivial ?_
    rw [if_pos (show nI n ≤ nI n from Int32.le_refl _)]
    refine P0.b GX11_copy 1 (ob := []) (cf' := (184, [some (.ref 0), some (.int (nI i)), some (.int (nI p)), some (.int (nI o)), some (.int (nI q)), some (.int (nI n)), some (.int 0), some (.int (nI n)), none], [.int (nI n)], hC g z w (up2 a 17 v90) b)) rfl trivial ?_
    exact P0.ri (by decide +kernel) rfl rfl ⟨rfl, by rw [hI90]⟩
set_option maxHeartbeats 1000000 in
theorem copy_up {g z : Nat → Int32} {w : Int64} {a b : Nat → Nat → Int32} {i p q n si : Nat} (hi : i < 4) (ht : ¬ a 14 i = 0) (hzi : a 16 i = nI si) (hsi : si ≤ 40) (hpi : p + n ≤ si) (hqo : q + n ≤ si) (hpq : q ≤ p) : P0 2 0 0 mX11_copy (0, ent 9 [.ref 0, .int (nI i), .int (nI p), .int (nI i), .int (nI q), .int (nI n)], [], hC g z w a b) (fun r h' => r = some (.int (nI n)) ∧ h' = hC g z w (up2 a 17 (va_cpy (a 17) (a 17) (40 * i + p) (40 * i + q) n)) b) := by
  refine P0.b GX11_copy 1 (ob := []) (cf' := (1, [some (.ref 0), some (.int (nI i)), some (.int (nI p)), some (.int (nI i)), some (.int (nI q)), some (.int (nI n)), none, none, none], [.int (nI i)], hC g z w a b)) rfl trivial ?_
  refine P0.cr (io := []) (as := [.int (nI i)]) (rest := []) (hc := []) (hc1 := []) (r1 := some (.int (if 0 ≤ nI i ∧ nI i ≤ 3 then 1 else 0))) (st' := [.int (if 0 ≤ nI i ∧ nI i ≤ 3 then 1 else 0)]) (h' := hC g z w a b) (d0 := 1) GX11_isSheet kX11_copy_1 rfl rfl (Nat.le_of_ble_eq_true rfl) (Nat.le_of_ble_eq_true rfl) rfl trivial (e_X11_isSheet (nI i)) (Nat.le_of_ble_eq_true rfl) rfl (Nat.le_of_ble_eq_true rfl) (Nat.le_of_ble_eq_true rfl) rfl rfl ?_
  refine P0.b GX11_copy 1 (ob := []) (cf' := (if (if 0 ≤ nI i ∧ nI i ≤ 3 then 1 else 0) = 0 then 14 else 7, [some (.ref 0), some (.int (nI i)), some (.int (nI p)), some (.int (nI i)), some (.int (nI q)), some (.int (nI n)), none, none, none], [], hC g z w a b)) rfl trivial ?_
  rw [if_pos (show 0 ≤ nI i ∧ nI i ≤ 3 from sh_ok hi), if_neg (by decide)]
  refine P0.b GX11_copy 1 (ob := []) (cf' := (8, [some (.ref 0), some (.int (nI i)), some (.int (nI p)), some (.int (nI i)), some (.int (nI q)), some (.int (nI n)), none, none, none], [.int (nI i)], hC g z w a b)) rfl trivial ?_
  refine P0.cr (io := []) (as := [.int (nI i)]) (rest := []) (hc := []) (hc1 := []) (r1 := some (.int (if 0 ≤ nI i ∧ nI i ≤ 3 then 1 else 0))) (st' := [.int (if 0 ≤ nI i ∧ nI i ≤ 3 then 1 else 0)]) (h' := hC g z w a b) (d0 := 1) GX11_isSheet kX11_copy_8 rfl rfl (Nat.le_of_ble_eq_true rfl) (Nat.le_of_ble_eq_true rfl) rfl trivial (e_X11_isSheet (nI i)) (Nat.le_of_ble_eq_true rfl) rfl (Nat.le_of_ble_eq_true rfl) (Nat.le_of_ble_eq_true rfl) rfl rfl ?_
  refine P0.b GX11_copy 1 (ob := []) (cf' := (if (if 0 ≤ nI i ∧ nI i ≤ 3 then 1 else 0) = 0 then 14 else 17, [some (.ref 0), some (.int (nI i)), some (.int (nI p)), some (.int (nI i)), some (.int (nI q)), some (.int (nI n)), none, none, none], [], hC g z w a b)) rfl trivial ?_
  rw [if_pos (show 0 ≤ nI i ∧ nI i ≤ 3 from sh_ok hi), if_neg (by decide)]
  refine P0.b GX11_copy 3 (ob := []) (cf' := (22, [some (.ref 0), some (.int (nI i)), some (.int (nI p)), some (.int (nI i)), some (.int (nI q)), some (.int (nI n)), none, none, none], [.int (nI i), .ref 14], hC g z w a b)) rfl trivial ?_
  refine P0.b GX11_copy 2 (ob := [vp_in (nI i) 4]) (cf' := (if (a 14) (nI i).toNatClampNeg = 0 then 35 else 26, [some (.ref 0), some (.int (nI i)), some (.int (nI p)), some (.int (nI i)), some (.int (nI q)), some (.int (nI n)), none, none, none], [], hC g z w a b)) rfl ⟨(nI_vp hi (by decide)), trivial⟩ ?_
  rw [show (nI i).toNatClampNeg = i from nI_clamp (by omega)]
  rw [if_neg (show ¬ ((a 14) i = 0) from ht)]
  refine P0.b GX11_copy 3 (ob := []) (cf' := (31, [some (.ref 0), some (.int (nI i)), some (.int (nI p)), some (.int (nI i)), some (.int (nI q)), some (.int (nI n)), none, none, none], [.int (nI i), .ref 14], hC g z w a b)) rfl trivial ?_
  refine P0.b GX11_copy 2 (ob := [vp_in (nI i) 4]) (cf' := (if (a 14) (nI i).toNatClampNeg = 0 then 35 else 38, [some (.ref 0), some (.int (nI i)), some (.int (nI p)), some (.int (nI i)), some (.int (nI q)), some (.int (nI n)), none, none, none], [], hC g z w a b)) rfl ⟨(nI_vp hi (by decide)), trivial⟩ ?_
  rw [show (nI i).toNatClampNeg = i from nI_clamp (by omega)]
  rw [if_neg (show ¬ ((a 14) i = 0) from ht)]
  refine P0.b GX11_copy 3 (ob := []) (cf' := (43, [some (.ref 0), some (.int (nI i)), some (.int (nI p)), some (.int (nI i)), some (.int (nI q)), some (.int (nI n)), none, none, none], [.int (nI i), .ref 15], hC g z w a b)) rfl trivial ?_
  refine P0.b GX11_copy 4 (ob := [vp_in (nI i) 4]) (cf' := (49, [some (.ref 0), some (.int (nI i)), some (.int (nI p)), some (.int (nI i)), some (.int (nI q)), some (.int (nI n)), none, none, none], [.int (nI i), .ref 15, .int ((a 15) (nI i).toNatClampNeg)], hC g z w a b)) rfl ⟨(nI_vp hi (by decide)), trivial⟩ ?_
  rw [show (nI i).toNatClampNeg = i from nI_clamp (by omega)]
  refine P0.b GX11_copy 2 (ob := [vp_in (nI i) 4]) (cf' := (if (a 15) i = (a 15) (nI i).toNatClampNeg then 56 else 53, [some (.ref 0), some (.int (nI i)), some (.int (nI p)), some (.int (nI i)), some (.int (nI q)), some (.int (nI n)), none, none, none], [], hC g z w a b)) rfl ⟨(nI_vp hi (by decide)), trivial⟩ ?_
  rw [show (nI i).toNatClampNeg = i from nI_clamp (by omega)]
  rw [if_pos (show (a 15) i = (a 15) i from rfl)]
  refine P0.b GX11_copy 2 (ob := []) (cf' := (if nI n < 0 then 97 else 61, [some (.ref 0), some (.int (nI i)), some (.int (nI p)), some (.int (nI i)), some (.int (nI q)), some (.int (nI n)), none, none, none], [], hC g z w a b)) rfl trivial ?_
  rw [if_neg (show ¬ (nI n < 0) from nI_pos (by omega))]
  refine P0.b GX11_copy 2 (ob := []) (cf' := (if nI p < 0 then 97 else 65, [some (.ref 0), some (.int (nI i)), some (.int (nI p)), some (.int (nI i)), some (.int (nI q)), some (.int (nI n)), none, none, none], [], hC g z w a b)) rfl trivial ?_
  rw [if_neg (show ¬ (nI p < 0) from nI_pos (by omega))]
  refine P0.b GX11_copy 2 (ob := []) (cf' := (if nI q < 0 then 97 else 70, [some (.ref 0), some (.int (nI i)), some (.int (nI p)), some (.int (nI i)), some (.int (nI q)), some (.int (nI n)), none, none, none], [], hC g z w a b)) rfl trivial ?_
  rw [if_neg (show ¬ (nI q < 0) from nI_pos (by omega))]
  refine P0.b GX11_copy 4 (ob := []) (cf' := (76, [some (.ref 0), some (.int (nI i)), some (.int (nI p)), some (.int (nI i)), some (.int (nI q)), some (.int (nI n)), none, none, none], [.int (nI i), .ref 16, .int (nI p)], hC g z w a b)) rfl trivial ?_
  refine P0.b GX11_copy 4 (ob := [vp_in (nI i) 4]) (cf' := (if ((a 16) (nI i).toNatClampNeg) - (nI n) < nI p then 97 else 83, [some (.ref 0), some (.int (nI i)), some (.int (nI p)), some (.int (nI i)), some (.int (nI q)), some (.int (nI n)), none, none, none], [], hC g z w a b)) rfl ⟨(nI_vp hi (by decide)), trivial⟩ ?_
  rw [show (nI i).toNatClampNeg = i from nI_clamp (by omega)]
  rw [if_neg (show ¬ (((a 16) i) - (nI n) < nI p) from by rw [hzi, pk_sub (by omega)]; exact nI_nlt (by omega) (by omega))]
  refine P0.b GX11_copy 4 (ob := []) (cf' := (90, [some (.ref 0), some (.int (nI i)), some (.int (nI p)), some (.int (nI i)), some (.int (nI q)), some (.int (nI n)), none, none, none], [.int (nI i), .ref 16, .int (nI q)], hC g z w a b)) rfl trivial ?_
  refine P0.b GX11_copy 4 (ob := [vp_in (nI i) 4]) (cf' := (if nI q ≤ ((a 16) (nI i).toNatClampNeg) - (nI n) then 100 else 97, [some (.ref 0), some (.int (nI i)), some (.int (nI p)), some (.int (nI i)), some (.int (nI q)), some (.int (nI n)), none, none, none], [], hC g z w a b)) rfl ⟨(nI_vp hi (by decide)), trivial⟩ ?_
  rw [show (nI i).toNatClampNeg = i from nI_clamp (by omega)]
  rw [if_pos (show nI q ≤ ((a 16) i) - (nI n) from by rw [hzi, pk_sub (by omega)]; exact nI_le (by omega) (by omega))]
  refine P0.b GX11_copy 3 (ob := []) (cf' := (if nI i = nI i then 105 else 115, [some (.ref 0), some (.int (nI i)), some (.int (nI p)), some (.int (nI i)), some (.int (nI q)), some (.int (nI n)), none, none, none], [], hC g z w a b)) rfl trivial ?_
  rw [if_pos (show nI i = nI i from rfl)]
  refine P0.b GX11_copy 3 (ob := []) (cf' := (if nI q ≤ nI p then 115 else 111, [some (.ref 0), some (.int (nI i)), some (.int (nI p)), some (.int (nI i)), some (.int (nI q)), some (.int (nI n)), none, none, none], [], hC g z w a b)) rfl trivial ?_
  rw [if_pos (show nI q ≤ nI p from nI_le (by omega) (by omega))]
  refine P0.b GX11_copy 4 (ob := []) (cf' := (121, [some (.ref 0), some (.int (nI i)), some (.int (nI p)), some (.int (nI i)), some (.int (nI q)), some (.int (nI n)), some (.int 0), some (.int 0), none], [], hC g z w a b)) rfl trivial ?_
  rw [show hC g z w a b = hC g z w (up2 a 17 (a 17)) b from by rw [up2_self]]
  refine P0.loopI (N := n) (fun k v => v = va_cpy (a 17) (a 17) (40 * i + p) (40 * i + q) k) (fun x91 v91 => (121, [some (.ref 0), some (.int (nI i)), some (.int (nI p)), some (.int (nI i)), some (.int (nI q)), some (.int (nI n)), some (.int 0), some (.int x91), none], [], hC g z w (up2 a 17 v91) b)) (fun i91 v91 hi91 hI91 hk91 => ?_) (fun v91 hI91 => ?_) 0 (a 17) nI_0.symm cp_0
  · show P0 _ _ _ _ (121, [some (.ref 0), some (.int (nI i)), some (.int (nI p)), some (.int (nI i)), some (.int (nI q)), some (.int (nI n)), some (.int 0), some (.int (nI i91)), none], [], hC g z w (up2 a 17 v91) b) _
    refine P0.b GX11_copy 3 (ob := []) (cf' := (if nI n ≤ nI i91 then 182 else 128, [some (.ref 0), some (.int (nI i)), some (.int (nI p)), some (.int (nI i)), some (.int (nI q)), some (.int (nI n)), some (.int 0), some (.int (nI i91)), none], [], hC g z w (up2 a 17 v91) b)) rfl trivial ?_
    rw [if_neg (show ¬ (nI n ≤ nI i91) from nI_ge hi91 (by omega))]
    refine P0.b GX11_copy 2 (ob := []) (cf' := (if (0 : Int32) = 0 then 143 else 133, [some (.ref 0), some (.int (nI i)), some (.int (nI p)), some (.int (nI i)), some (.int (nI q)), some (.int (nI n)), some (.int 0), some (.int (nI i91)), none], [], hC g z w (up2 a 17 v91) b)) rfl trivial ?_
    rw [if_pos (show ((0 : Int32) = 0) from by decide)]
    refine P0.b GX11_copy 8 (ob := []) (cf' := (157, [some (.ref 0), some (.int (nI i)), some (.int (nI p)), some (.int (nI i)), some (.int (nI q)), some (.int (nI n)), some (.int 0), some (.int (nI i91)), some (.int (nI i91))], [.int (nI q), .int (40 * (nI i)), .ref 17], hC g z w (up2 a 17 v91) b)) rfl trivial ?_
    rw [show (40 * (nI i) : Int32) = nI (40 * i) from pk_mul _ _]
    refine P0.b GX11_copy 8 (ob := []) (cf' := (169, [some (.ref 0), some (.int (nI i)), some (.int (nI p)), some (.int (nI i)), some (.int (nI q)), some (.int (nI n)), some (.int 0), some (.int (nI i91)), some (.int (nI i91))], [.int (40 * (nI i)), .ref 17, .int (((nI (40 * i)) + (nI q)) + (nI i91)), .ref 17], hC g z w (up2 a 17 v91) b)) rfl trivial ?_
    rw [show (40 * (nI i) : Int32) = nI (40 * i) from pk_mul _ _]
    rw [show (nI (40 * i)) + (nI q) = nI ((40 * i) + q) from nI_add _ _]
    rw [show (nI ((40 * i) + q)) + (nI i91) = nI (((40 * i) + q) + i91) from nI_add _ _]
    refine P0.b GX11_copy 4 (ob := []) (cf' := (174, [some (.ref 0), some (.int (nI i)), some (.int (nI p)), some (.int (nI i)), some (.int (nI q)), some (.int (nI n)), some (.int 0), some (.int (nI i91)), some (.int (nI i91))], [.int (((nI (40 * i)) + (nI p)) + (nI i91)), .ref 17, .int (nI (((40 * i) + q) + i91)), .ref 17], hC g z w (up2 a 17 v91) b)) rfl trivial ?_
    rw [show (nI (40 * i)) + (nI p) = nI ((40 * i) + p) from nI_add _ _]
    rw [show (nI ((40 * i) + p)) + (nI i91) = nI (((40 * i) + p) + i91) from nI_add _ _]
    refine P0.b GX11_copy 1 (ob := [vp_in (nI (((40 * i) + p) + i91)) 160]) (cf' := (175, [some (.ref 0), some (.int (nI i)), some (.int (nI p)), some (.int (nI i)), some (.int (nI q)), some (.int (nI n)), some (.int 0), some (.int (nI i91)), some (.int (nI i91))], [.int (v91 (nI (((40 * i) + p) + i91)).toNatClampNeg), .int (nI (((40 * i) + q) + i91)), .ref 17], hC g z w (up2 a 17 v91) b)) rfl ⟨(nI_vp (by omega) (by decide)), trivial⟩ ?_
    rw [show (nI (((40 * i) + p) + i91)).toNatClampNeg = (((40 * i) + p) + i91) from nI_clamp (by omega)]
    refine P0.b GX11_copy 1 (ob := [vp_in (nI (((40 * i) + q) + i91)) 160]) (cf' := (176, [some (.ref 0), some (.int (nI i)), some (.int (nI p)), some (.int (nI i)), some (.int (nI q)), some (.int (nI n)), some (.int 0), some (.int (nI i91)), some (.int (nI i91))], [], hC g z w (up2 a 17 (upd v91 (nI (((40 * i) + q) + i91)).toNatClampNeg (v91 (((40 * i) + p) + i91)))) b)) rfl ⟨(nI_vp (by omega) (by decide)), trivial⟩ ?_
    rw [show (nI (((40 * i) + q) + i91)).toNatClampNeg = (((40 * i) + q) + i91) from nI_clamp (by omega)]
    refine P0.b GX11_copy 2 (ob := []) (cf' := (121, [some (.ref 0), some (.int (nI i)), some (.int (nI p)), some (.int (nI i)), some (.int (nI q)), some (.int (nI n)), some (.int 0), some (.int ((nI i91) + 1)), some (.int (nI i91))], [], hC g z w (up2 a 17 (upd v91 (((40 * i) + q) + i91) (v91 (((40 * i) + p) + i91)))) b)) rfl trivial ?_
    rw [show (nI i91) + 1 = nI (i91 + 1) from nI_add _ _]
    refine P0.forget (ls' := [some (.ref 0), some (.int (nI i)), some (.int (nI p)), some (.int (nI i)), some (.int (nI q)), some (.int (nI n)), some (.int 0), some (.int (nI (i91 + 1))), none]) ⟨.inr rfl, .inr rfl, .inr rfl, .inr rfl, .inr rfl, .inr rfl, .inr rfl, .inr rfl, .inl rfl, trivial⟩ ?_
    exact hk91 _ (upd v91 (((40 * i) + q) + i91) (v91 (((40 * i) + p) + i91))) rfl (by rw [hI91]; exact cp_up (by omega))
  · show P0 _ _ _ _ (121, [some (.ref 0), some (.int (nI i)), some (.int (nI p)), some (.int (nI i)), some (.int (nI q)), some (.int (nI n)), some (.int 0), some (.int (nI n)), none], [], hC g z w (up2 a 17 v91) b) _
    refine P0.b GX11_copy 3 (ob := []) (cf' := (if nI n ≤ nI n then 182 else 128, [some (.ref 0), some (.int (nI i)), some (.int (nI p)), some (.int (nI i)), some (.int (nI q)), some (.int (nI n)), some (.int 0), some (.int (nI n)), none], [], hC g z w (up2 a 17 v91) b)) rfl trivial ?_
    rw [if_pos (show nI n ≤ nI n from Int32.le_refl _)]
    refine P0.b GX11_copy 1 (ob := []) (cf' := (184, [some (.ref 0), some (.int (nI i)), some (.int (nI p)), some (.int (nI i)), some (.int (nI q)), some (.int (nI n)), some (.int 0), some (.int (nI n)), none], [.int (nI n)], hC g z w (up2 a 17 v91) b)) rfl trivial ?_
    exact P0.ri (by decide +kernel) rfl rfl ⟨rfl, by rw [hI91]⟩
set_option maxHeartbeats 1000000 in
theorem copy_dn {g z : Nat → Int32} {w : Int64} {a b : Nat → Nat → Int32} {i p q n si : Nat} (hi : i < 4) (ht : ¬ a 14 i = 0) (hzi : a 16 i = nI si) (hsi : si ≤ 40) (hpi : p + n ≤ si) (hqo : q + n ≤ si) (hpq : p < q) : P0 2 0 0 mX11_copy (0, ent 9 [.ref 0, .int (nI i), .int (nI p), .int (nI i), .int (nI q), .int (nI n)], [], hC g z w a b) (fun r h' => r = some (.int (nI n)) ∧ h' = hC g z w (up2 a 17 (va_cpy (a 17) (a 17) (40 * i + p) (40 * i + q) n)) b) := by
  refine P0.b GX11_copy 1 (ob := []) (cf' := (1, [some (.ref 0), some (.int (nI i)), some (.int (nI p)), some (.int (nI i)), some (.int (nI q)), some (.int (nI n)), none, none, none], [.int (nI i)], hC g z w a b)) rfl trivial ?_
  refine P0.cr (io := []) (as := [.int (nI i)]) (rest := []) (hc := []) (hc1 := []) (r1 := some (.int (if 0 ≤ nI i ∧ nI i ≤ 3 then 1 else 0))) (st' := [.int (if 0 ≤ nI i ∧ nI i ≤ 3 then 1 else 0)]) (h' := hC g z w a b) (d0 := 1) GX11_isSheet kX11_copy_1 rfl rfl (Nat.le_of_ble_eq_true rfl) (Nat.le_of_ble_eq_true rfl) rfl trivial (e_X11_isSheet (nI i)) (Nat.le_of_ble_eq_true rfl) rfl (Nat.le_of_ble_eq_true rfl) (Nat.le_of_ble_eq_true rfl) rfl rfl ?_
  refine P0.b GX11_copy 1 (ob := []) (cf' := (if (if 0 ≤ nI i ∧ nI i ≤ 3 then 1 else 0) = 0 then 14 else 7, [some (.ref 0), some (.int (nI i)), some (.int (nI p)), some (.int (nI i)), some (.int (nI q)), some (.int (nI n)), none, none, none], [], hC g z w a b)) rfl trivial ?_
  rw [if_pos (show 0 ≤ nI i ∧ nI i ≤ 3 from sh_ok hi), if_neg (by decide)]
  refine P0.b GX11_copy 1 (ob := []) (cf' := (8, [some (.ref 0), some (.int (nI i)), some (.int (nI p)), some (.int (nI i)), some (.int (nI q)), some (.int (nI n)), none, none, none], [.int (nI i)], hC g z w a b)) rfl trivial ?_
  refine P0.cr (io := []) (as := [.int (nI i)]) (rest := []) (hc := []) (hc1 := []) (r1 := some (.int (if 0 ≤ nI i ∧ nI i ≤ 3 then 1 else 0))) (st' := [.int (if 0 ≤ nI i ∧ nI i ≤ 3 then 1 else 0)]) (h' := hC g z w a b) (d0 := 1) GX11_isSheet kX11_copy_8 rfl rfl (Nat.le_of_ble_eq_true rfl) (Nat.le_of_ble_eq_true rfl) rfl trivial (e_X11_isSheet (nI i)) (Nat.le_of_ble_eq_true rfl) rfl (Nat.le_of_ble_eq_true rfl) (Nat.le_of_ble_eq_true rfl) rfl rfl ?_
  refine P0.b GX11_copy 1 (ob := []) (cf' := (if (if 0 ≤ nI i ∧ nI i ≤ 3 then 1 else 0) = 0 then 14 else 17, [some (.ref 0), some (.int (nI i)), some (.int (nI p)), some (.int (nI i)), some (.int (nI q)), some (.int (nI n)), none, none, none], [], hC g z w a b)) rfl trivial ?_
  rw [if_pos (show 0 ≤ nI i ∧ nI i ≤ 3 from sh_ok hi), if_neg (by decide)]
  refine P0.b GX11_copy 3 (ob := []) (cf' := (22, [some (.ref 0), some (.int (nI i)), some (.int (nI p)), some (.int (nI i)), some (.int (nI q)), some (.int (nI n)), none, none, none], [.int (nI i), .ref 14], hC g z w a b)) rfl trivial ?_
  refine P0.b GX11_copy 2 (ob := [vp_in (nI i) 4]) (cf' := (if (a 14) (nI i).toNatClampNeg = 0 then 35 else 26, [some (.ref 0), some (.int (nI i)), some (.int (nI p)), some (.int (nI i)), some (.int (nI q)), some (.int (nI n)), none, none, none], [], hC g z w a b)) rfl ⟨(nI_vp hi (by decide)), trivial⟩ ?_
  rw [show (nI i).toNatClampNeg = i from nI_clamp (by omega)]
  rw [if_neg (show ¬ ((a 14) i = 0) from ht)]
  refine P0.b GX11_copy 3 (ob := []) (cf' := (31, [some (.ref 0), some (.int (nI i)), some (.int (nI p)), some (.int (nI i)), some (.int (nI q)), some (.int (nI n)), none, none, none], [.int (nI i), .ref 14], hC g z w a b)) rfl trivial ?_
  refine P0.b GX11_copy 2 (ob := [vp_in (nI i) 4]) (cf' := (if (a 14) (nI i).toNatClampNeg = 0 then 35 else 38, [some (.ref 0), some (.int (nI i)), some (.int (nI p)), some (.int (nI i)), some (.int (nI q)), some (.int (nI n)), none, none, none], [], hC g z w a b)) rfl ⟨(nI_vp hi (by decide)), trivial⟩ ?_
  rw [show (nI i).toNatClampNeg = i from nI_clamp (by omega)]
  rw [if_neg (show ¬ ((a 14) i = 0) from ht)]
  refine P0.b GX11_copy 3 (ob := []) (cf' := (43, [some (.ref 0), some (.int (nI i)), some (.int (nI p)), some (.int (nI i)), some (.int (nI q)), some (.int (nI n)), none, none, none], [.int (nI i), .ref 15], hC g z w a b)) rfl trivial ?_
  refine P0.b GX11_copy 4 (ob := [vp_in (nI i) 4]) (cf' := (49, [some (.ref 0), some (.int (nI i)), some (.int (nI p)), some (.int (nI i)), some (.int (nI q)), some (.int (nI n)), none, none, none], [.int (nI i), .ref 15, .int ((a 15) (nI i).toNatClampNeg)], hC g z w a b)) rfl ⟨(nI_vp hi (by decide)), trivial⟩ ?_
  rw [show (nI i).toNatClampNeg = i from nI_clamp (by omega)]
  refine P0.b GX11_copy 2 (ob := [vp_in (nI i) 4]) (cf' := (if (a 15) i = (a 15) (nI i).toNatClampNeg then 56 else 53, [some (.ref 0), some (.int (nI i)), some (.int (nI p)), some (.int (nI i)), some (.int (nI q)), some (.int (nI n)), none, none, none], [], hC g z w a b)) rfl ⟨(nI_vp hi (by decide)), trivial⟩ ?_
  rw [show (nI i).toNatClampNeg = i from nI_clamp (by omega)]
  rw [if_pos (show (a 15) i = (a 15) i from rfl)]
  refine P0.b GX11_copy 2 (ob := []) (cf' := (if nI n < 0 then 97 else 61, [some (.ref 0), some (.int (nI i)), some (.int (nI p)), some (.int (nI i)), some (.int (nI q)), some (.int (nI n)), none, none, none], [], hC g z w a b)) rfl trivial ?_
  rw [if_neg (show ¬ (nI n < 0) from nI_pos (by omega))]
  refine P0.b GX11_copy 2 (ob := []) (cf' := (if nI p < 0 then 97 else 65, [some (.ref 0), some (.int (nI i)), some (.int (nI p)), some (.int (nI i)), some (.int (nI q)), some (.int (nI n)), none, none, none], [], hC g z w a b)) rfl trivial ?_
  rw [if_neg (show ¬ (nI p < 0) from nI_pos (by omega))]
  refine P0.b GX11_copy 2 (ob := []) (cf' := (if nI q < 0 then 97 else 70, [some (.ref 0), some (.int (nI i)), some (.int (nI p)), some (.int (nI i)), some (.int (nI q)), some (.int (nI n)), none, none, none], [], hC g z w a b)) rfl trivial ?_
  rw [if_neg (show ¬ (nI q < 0) from nI_pos (by omega))]
  refine P0.b GX11_copy 4 (ob := []) (cf' := (76, [some (.ref 0), some (.int (nI i)), some (.int (nI p)), some (.int (nI i)), some (.int (nI q)), some (.int (nI n)), none, none, none], [.int (nI i), .ref 16, .int (nI p)], hC g z w a b)) rfl trivial ?_
  refine P0.b GX11_copy 4 (ob := [vp_in (nI i) 4]) (cf' := (if ((a 16) (nI i).toNatClampNeg) - (nI n) < nI p then 97 else 83, [some (.ref 0), some (.int (nI i)), some (.int (nI p)), some (.int (nI i)), some (.int (nI q)), some (.int (nI n)), none, none, none], [], hC g z w a b)) rfl ⟨(nI_vp hi (by decide)), trivial⟩ ?_
  rw [show (nI i).toNatClampNeg = i from nI_clamp (by omega)]
  rw [if_neg (show ¬ (((a 16) i) - (nI n) < nI p) from by rw [hzi, pk_sub (by omega)]; exact nI_nlt (by omega) (by omega))]
  refine P0.b GX11_copy 4 (ob := []) (cf' := (90, [some (.ref 0), some (.int (nI i)), some (.int (nI p)), some (.int (nI i)), some (.int (nI q)), some (.int (nI n)), none, none, none], [.int (nI i), .ref 16, .int (nI q)], hC g z w a b)) rfl trivial ?_
  refine P0.b GX11_copy 4 (ob := [vp_in (nI i) 4]) (cf' := (if nI q ≤ ((a 16) (nI i).toNatClampNeg) - (nI n) then 100 else 97, [some (.ref 0), some (.int (nI i)), some (.int (nI p)), some (.int (nI i)), some (.int (nI q)), some (.int (nI n)), none, none, none], [], hC g z w a b)) rfl ⟨(nI_vp hi (by decide)), trivial⟩ ?_
  rw [show (nI i).toNatClampNeg = i from nI_clamp (by omega)]
  rw [if_pos (show nI q ≤ ((a 16) i) - (nI n) from by rw [hzi, pk_sub (by omega)]; exact nI_le (by omega) (by omega))]
  refine P0.b GX11_copy 3 (ob := []) (cf' := (if nI i = nI i then 105 else 115, [some (.ref 0), some (.int (nI i)), some (.int (nI p)), some (.int (nI i)), some (.int (nI q)), some (.int (nI n)), none, none, none], [], hC g z w a b)) rfl trivial ?_
  rw [if_pos (show nI i = nI i from rfl)]
  refine P0.b GX11_copy 3 (ob := []) (cf' := (if nI q ≤ nI p then 115 else 111, [some (.ref 0), some (.int (nI i)), some (.int (nI p)), some (.int (nI i)), some (.int (nI q)), some (.int (nI n)), none, none, none], [], hC g z w a b)) rfl trivial ?_
  rw [if_neg (show ¬ (nI q ≤ nI p) from nI_ge hpq (by omega))]
  refine P0.b GX11_copy 5 (ob := []) (cf' := (121, [some (.ref 0), some (.int (nI i)), some (.int (nI p)), some (.int (nI i)), some (.int (nI q)), some (.int (nI n)), some (.int 1), some (.int 0), none], [], hC g z w a b)) rfl trivial ?_
  rw [show hC g z w a b = hC g z w (up2 a 17 (a 17)) b from by rw [up2_self]]
  refine P0.loopI (N := n) (fun k v => v = cpD (a 17) (40 * i + p) (40 * i + q) n k) (fun x92 v92 => (121, [some (.ref 0), some (.int (nI i)), some (.int (nI p)), some (.int (nI i)), some (.int (nI q)), some (.int (nI n)), some (.int 1), some (.int x92), none], [], hC g z w (up2 a 17 v92) b)) (fun i92 v92 hi92 hI92 hk92 => ?_) (fun v92 hI92 => ?_) 0 (a 17) nI_0.symm cpD_0
  · show P0 _ _ _ _ (121, [some (.ref 0), some (.int (nI i)), some (.int (nI p)), some (.int (nI i)), some (.int (nI q)), some (.int (nI n)), some (.int 1), some (.int (nI i92)), none], [], hC g z w (up2 a 17 v92) b) _
    refine P0.b GX11_copy 3 (ob := []) (cf' := (if nI n ≤ nI i92 then 182 else 128, [some (.ref 0), some (.int (nI i)), some (.int (nI p)), some (.int (nI i)), some (.int (nI q)), some (.int (nI n)), some (.int 1), some (.int (nI i92)), none], [], hC g z w (up2 a 17 v92) b)) rfl trivial ?_
    rw [if_neg (show ¬ (nI n ≤ nI i92) from nI_ge hi92 (by omega))]
    refine P0.b GX11_copy 2 (ob := []) (cf' := (if (1 : Int32) = 0 then 143 else 133, [some (.ref 0), some (.int (nI i)), some (.int (nI p)), some (.int (nI i)), some (.int (nI q)), some (.int (nI n)), some (.int 1), some (.int (nI i92)), none], [], hC g z w (up2 a 17 v92) b)) rfl trivial ?_
    rw [if_neg (show ¬ ((1 : Int32) = 0) from by decide)]
    refine P0.b GX11_copy 8 (ob := []) (cf' := (148, [some (.ref 0), some (.int (nI i)), some (.int (nI p)), some (.int (nI i)), some (.int (nI q)), some (.int (nI n)), some (.int 1), some (.int (nI i92)), some (.int (((nI n) - 1) - (nI i92)))], [.ref 0], hC g z w (up2 a 17 v92) b)) rfl trivial ?_
    rw [show ((nI n) - 1) - (nI i92) = nI (n - 1 - i92) from n1_sub (by omega) (by omega)]
    refine P0.b GX11_copy 8 (ob := []) (cf' := (161, [some (.ref 0), some (.int (nI i)), some (.int (nI p)), some (.int (nI i)), some (.int (nI q)), some (.int (nI n)), some (.int 1), some (.int (nI i92)), some (.int (nI (n - 1 - i92)))], [.int (((40 * (nI i)) + (nI q)) + (nI (n - 1 - i92))), .ref 17], hC g z w (up2 a 17 v92) b)) rfl trivial ?_
    rw [show (40 * (nI i) : Int32) = nI (40 * i) from pk_mul _ _]
    rw [show (nI (40 * i)) + (nI q) = nI ((40 * i) + q) from nI_add _ _]
    rw [show (nI ((40 * i) + q)) + (nI (n - 1 - i92)) = nI (((40 * i) + q) + (n - 1 - i92)) from nI_add _ _]
    refine P0.b GX11_copy 8 (ob := []) (cf' := (173, [some (.ref 0), some (.int (nI i)), some (.int (nI p)), some (.int (nI i)), some (.int (nI q)), some (.int (nI n)), some (.int 1), some (.int (nI i92)), some (.int (nI (n - 1 - i92)))], [.int (nI (n - 1 - i92)), .int ((40 * (nI i)) + (nI p)), .ref 17, .int (nI (((40 * i) + q) + (n - 1 - i92))), .ref 17], hC g z w (up2 a 17 v92) b)) rfl trivial ?_
    rw [show (40 * (nI i) : Int32) = nI (40 * i) from pk_mul _ _]
    rw [show (nI (40 * i)) + (nI p) = nI ((40 * i) + p) from nI_add _ _]
    refine P0.b GX11_copy 1 (ob := []) (cf' := (174, [some (.ref 0), some (.int (nI i)), some (.int (nI p)), some (.int (nI i)), some (.int (nI q)), some (.int (nI n)), some (.int 1), some (.int (nI i92)), some (.int (nI (n - 1 - i92)))], [.int ((nI ((40 * i) + p)) + (nI (n - 1 - i92))), .ref 17, .int (nI (((40 * i) + q) + (n - 1 - i92))), .ref 17], hC g z w (up2 a 17 v92) b)) rfl trivial ?_
    rw [show (nI ((40 * i) + p)) + (nI (n - 1 - i92)) = nI (((40 * i) + p) + (n - 1 - i92)) from nI_add _ _]
    refine P0.b GX11_copy 1 (ob := [vp_in (nI (((40 * i) + p) + (n - 1 - i92))) 160]) (cf' := (175, [some (.ref 0), some (.int (nI i)), some (.int (nI p)), some (.int (nI i)), some (.int (nI q)), some (.int (nI n)), some (.int 1), some (.int (nI i92)), some (.int (nI (n - 1 - i92)))], [.int (v92 (nI (((40 * i) + p) + (n - 1 - i92))).toNatClampNeg), .int (nI (((40 * i) + q) + (n - 1 - i92))), .ref 17], hC g z w (up2 a 17 v92) b)) rfl ⟨(nI_vp (by omega) (by decide)), trivial⟩ ?_
    rw [show (nI (((40 * i) + p) + (n - 1 - i92))).toNatClampNeg = (((40 * i) + p) + (n - 1 - i92)) from nI_clamp (by omega)]
    refine P0.b GX11_copy 1 (ob := [vp_in (nI (((40 * i) + q) + (n - 1 - i92))) 160]) (cf' := (176, [some (.ref 0), some (.int (nI i)), some (.int (nI p)), some (.int (nI i)), some (.int (nI q)), some (.int (nI n)), some (.int 1), some (.int (nI i92)), some (.int (nI (n - 1 - i92)))], [], hC g z w (up2 a 17 (upd v92 (nI (((40 * i) + q) + (n - 1 - i92))).toNatClampNeg (v92 (((40 * i) + p) + (n - 1 - i92))))) b)) rfl ⟨(nI_vp (by omega) (by decide)), trivial⟩ ?_
    rw [show (nI (((40 * i) + q) + (n - 1 - i92))).toNatClampNeg = (((40 * i) + q) + (n - 1 - i92)) from nI_clamp (by omega)]
    refine P0.b GX11_copy 2 (ob := []) (cf' := (121, [some (.ref 0), some (.int (nI i)), some (.int (nI p)), some (.int (nI i)), some (.int (nI q)), some (.int (nI n)), some (.int 1), some (.int ((nI i92) + 1)), some (.int (nI (n - 1 - i92)))], [], hC g z w (up2 a 17 (upd v92 (((40 * i) + q) + (n - 1 - i92)) (v92 (((40 * i) + p) + (n - 1 - i92))))) b)) rfl trivial ?_
    rw [show (nI i92) + 1 = nI (i92 + 1) from nI_add _ _]
    refine P0.forget (ls' := [some (.ref 0), some (.int (nI i)), some (.int (nI p)), some (.int (nI i)), some (.int (nI q)), some (.int (nI n)), some (.int 1), some (.int (nI (i92 + 1))), none]) ⟨.inr rfl, .inr rfl, .inr rfl, .inr rfl, .inr rfl, .inr rfl, .inr rfl, .inr rfl, .inl rfl, trivial⟩ ?_
    exact hk92 _ (upd v92 (((40 * i) + q) + (n - 1 - i92)) (v92 (((40 * i) + p) + (n - 1 - i92)))) rfl (by rw [hI92]; exact cp_dn (by omega) (by omega))
  · show P0 _ _ _ _ (121, [some (.ref 0), some (.int (nI i)), some (.int (nI p)), some (.int (nI i)), some (.int (nI q)), some (.int (nI n)), some (.int 1), some (.int (nI n)), none], [], hC g z w (up2 a 17 v92) b) _
    refine P0.b GX11_copy 3 (ob := []) (cf' := (if nI n ≤ nI n then 182 else 128, [some (.ref 0), some (.int (nI i)), some (.int (nI p)), some (.int (nI i)), some (.int (nI q)), some (.int (nI n)), some (.int 1), some (.int (nI n)), none], [], hC g z w (up2 a 17 v92) b)) rfl trivial ?_
    rw [if_pos (show nI n ≤ nI n from Int32.le_refl _)]
    refine P0.b GX11_copy 1 (ob := []) (cf' := (184, [some (.ref 0), some (.int (nI i)), some (.int (nI p)), some (.int (nI i)), some (.int (nI q)), some (.int (nI n)), some (.int 1), some (.int (nI n)), none], [.int (nI n)], hC g z w (up2 a 17 v92) b)) rfl trivial ?_
    exact P0.ri (by decide +kernel) rfl rfl ⟨rfl, by rw [hI92, cpD_n]⟩
