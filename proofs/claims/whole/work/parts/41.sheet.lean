/-! ===== laid by program (wip/tools) ===== -/
theorem ix_2 {i j : Nat} (hi : i < 4) (hj : j < 100) : (40 * nI i + nI j).toNatClampNeg = 40 * i + j := by
  rw [show (40 : Int32) * nI i = nI (40 * i) from pk_mul 40 i, nI_add]
  exact nI_clamp (by omega)
theorem ix_3 {i p j : Nat} (hi : i < 4) (hp : p < 100) (hj : j < 100) : (40 * nI i + nI p + nI j).toNatClampNeg = 40 * i + p + j := by
  rw [show (40 : Int32) * nI i = nI (40 * i) from pk_mul 40 i, nI_add, nI_add]
  exact nI_clamp (by omega)
theorem it_in3 {i p j : Nat} (hi : i < 4) (h : p + j < 40) : vp_in (40 * nI i + nI p + nI j) 160 := by
  rw [show (40 : Int32) * nI i = nI (40 * i) from pk_mul 40 i, nI_add, nI_add]
  exact nI_vp (by omega) (by decide)
theorem sh_ok {i : Nat} (hi : i < 4) : 0 ≤ nI i ∧ nI i ≤ 3 := ⟨nI_pos' (by omega), nI_le (b := 3) (by omega) (by decide)⟩
theorem n1_sub {n k : Nat} (h : k < n) (hn : n < 2 ^ 31) : nI n - 1 - nI k = nI (n - 1 - k) := by
  obtain ⟨c, rfl⟩ : ∃ c, n = c + 1 := ⟨n - 1, by omega⟩
  rw [nI_pred, pk_sub (by omega)]
  rfl
/-- the first k items of a sheet made 0 -/
def zerF (i : Nat) : Nat → (Nat → Int32) → Nat → Int32 := fun j f => upd f (40 * i + j) 0
theorem cp_up {f : Nat → Int32} {src dst k : Nat} (h : src + k < dst ∨ dst + k ≤ src + k) : upd (va_cpy f f src dst k) (dst + k) (va_cpy f f src dst k (src + k)) = va_cpy f f src dst (k + 1) := by
  funext y
  have e : va_cpy f f src dst k (src + k) = f (src + k) := pk_cpy_out (by omega)
  rw [e]
  by_cases hy : y = dst + k
  · rw [hy, pk_us, pk_cpy_in (by omega) (by omega), show dst + k - dst = k by omega]
  · rw [pk_un hy]
    by_cases h2 : dst ≤ y ∧ y < dst + k
    · rw [pk_cpy_in h2.1 h2.2, pk_cpy_in h2.1 (by omega)]
    · rw [pk_cpy_out (by omega), pk_cpy_out (by omega)]
theorem cp_0 {f : Nat → Int32} {src dst : Nat} : f = va_cpy f f src dst 0 := by
  funext y
  exact (pk_cpy_out (by omega)).symm
def cpD (f : Nat → Int32) (src dst n k : Nat) : Nat → Int32 := fun y => if dst + (n - k) ≤ y ∧ y < dst + n then f (src + (y - dst)) else f y
theorem cpD_0 {f : Nat → Int32} {src dst n : Nat} : f = cpD f src dst n 0 := by
  funext y
  exact (if_neg (by omega)).symm
theorem cpD_n {f : Nat → Int32} {src dst n : Nat} : cpD f src dst n n = va_cpy f f src dst n := by
  funext y
  by_cases h2 : dst ≤ y ∧ y < dst + n
  · rw [pk_cpy_in h2.1 h2.2]; exact if_pos (by omega)
  · rw [pk_cpy_out (by omega)]; exact if_neg (by omega)
theorem cp_dn {f : Nat → Int32} {src dst n k : Nat} (hk : k < n) (h : src < dst) : upd (cpD f src dst n k) (dst + (n - 1 - k)) (cpD f src dst n k (src + (n - 1 - k))) = cpD f src dst n (k + 1) := by
  funext y
  have e : cpD f src dst n k (src + (n - 1 - k)) = f (src + (n - 1 - k)) := if_neg (by omega)
  rw [e]
  by_cases hy : y = dst + (n - 1 - k)
  · rw [hy, pk_us]
    refine Eq.trans ?_ (if_pos (by omega)).symm
    rw [show dst + (n - 1 - k) - dst = n - 1 - k by omega]
  · rw [pk_un hy]
    by_cases h2 : dst + (n - k) ≤ y ∧ y < dst + n
    · exact (if_pos h2).trans (if_pos (by omega)).symm
    · exact (if_neg h2).trans (if_neg (by omega)).symm
theorem nI_dich (n : Int32) : n < 0 ∨ 40 < n ∨ ∃ k, k ≤ 40 ∧ n = nI k := by
  by_cases h : n < 0
  · exact Or.inl h
  · by_cases h2 : 40 < n
    · exact Or.inr (Or.inl h2)
    · obtain ⟨j, hj, rfl⟩ := nI_of2 (M := 40) (n := 40) (by decide) h (Int32.not_lt.mp h2)
      exact Or.inr (Or.inr ⟨j, hj, rfl⟩)
set_option maxHeartbeats 1000000 in
theorem sheet_bad {g z : Nat → Int32} {w : Int64} {a b : Nat → Nat → Int32} (s so n : Int32) (h : ¬ (0 ≤ s ∧ s ≤ 3)) : P0 2 0 0 mX11_sheet (0, ent 5 [.ref 0, .int s, .int so, .int n], [], hC g z w a b) (fun r h' => r = some (.int (-2)) ∧ h' = hC g z w a b) := by
  refine P0.b GX11_sheet 1 (ob := []) (cf' := (1, [some (.ref 0), some (.int s), some (.int so), some (.int n), none], [.int s], hC g z w a b)) rfl trivial ?_
  refine P0.cr (io := []) (as := [.int s]) (rest := []) (hc := []) (hc1 := []) (r1 := some (.int (if 0 ≤ s ∧ s ≤ 3 then 1 else 0))) (st' := [.int (if 0 ≤ s ∧ s ≤ 3 then 1 else 0)]) (h' := hC g z w a b) (d0 := 1) GX11_isSheet kX11_sheet_1 rfl rfl (Nat.le_of_ble_eq_true rfl) (Nat.le_of_ble_eq_true rfl) rfl trivial (e_X11_isSheet s) (Nat.le_of_ble_eq_true rfl) rfl (Nat.le_of_ble_eq_true rfl) (Nat.le_of_ble_eq_true rfl) rfl rfl ?_
  refine P0.b GX11_sheet 1 (ob := []) (cf' := (if (if 0 ≤ s ∧ s ≤ 3 then 1 else 0) = 0 then 31 else 7, [some (.ref 0), some (.int s), some (.int so), some (.int n), none], [], hC g z w a b)) rfl trivial ?_
  rw [if_neg (show ¬ (0 ≤ s ∧ s ≤ 3) from h), if_pos rfl]
  refine P0.b GX11_sheet 1 (ob := []) (cf' := (33, [some (.ref 0), some (.int s), some (.int so), some (.int n), none], [.int (-2)], hC g z w a b)) rfl trivial ?_
  exact P0.ri (by decide +kernel) rfl rfl ⟨rfl, rfl⟩
set_option maxHeartbeats 1000000 in
theorem sheet_sort {g z : Nat → Int32} {w : Int64} {a b : Nat → Nat → Int32} (s so n : Int32) (hs : 0 ≤ s ∧ s ≤ 3) (h : ¬ (-1 ≤ so ∧ so ≤ 2)) : P0 2 0 0 mX11_sheet (0, ent 5 [.ref 0, .int s, .int so, .int n], [], hC g z w a b) (fun r h' => r = some (.int (-2)) ∧ h' = hC g z w a b) := by
  refine P0.b GX11_sheet 1 (ob := []) (cf' := (1, [some (.ref 0), some (.int s), some (.int so), some (.int n), none], [.int s], hC g z w a b)) rfl trivial ?_
  refine P0.cr (io := []) (as := [.int s]) (rest := []) (hc := []) (hc1 := []) (r1 := some (.int (if 0 ≤ s ∧ s ≤ 3 then 1 else 0))) (st' := [.int (if 0 ≤ s ∧ s ≤ 3 then 1 else 0)]) (h' := hC g z w a b) (d0 := 1) GX11_isSheet kX11_sheet_1 rfl rfl (Nat.le_of_ble_eq_true rfl) (Nat.le_of_ble_eq_true rfl) rfl trivial (e_X11_isSheet s) (Nat.le_of_ble_eq_true rfl) rfl (Nat.le_of_ble_eq_true rfl) (Nat.le_of_ble_eq_true rfl) rfl rfl ?_
  refine P0.b GX11_sheet 1 (ob := []) (cf' := (if (if 0 ≤ s ∧ s ≤ 3 then 1 else 0) = 0 then 31 else 7, [some (.ref 0), some (.int s), some (.int so), some (.int n), none], [], hC g z w a b)) rfl trivial ?_
  rw [if_pos (show 0 ≤ s ∧ s ≤ 3 from hs), if_neg (by decide)]
  refine P0.b GX11_sheet 4 (ob := []) (cf' := (15, [some (.ref 0), some (.int s), some (.int so), some (.int n), none], [.long 2, .long (-1), .long so.toInt64], hC g z w a b)) rfl trivial ?_
  refine P0.cr (io := []) (as := [.long so.toInt64, .long (((-1) : Int32).toInt64), .long ((2 : Int32).toInt64)]) (rest := []) (hc := []) (hc1 := []) (r1 := some (.int (if (-1) ≤ so ∧ so ≤ 2 then 1 else 0))) (st' := [.int (if (-1) ≤ so ∧ so ≤ 2 then 1 else 0)]) (h' := hC g z w a b) (d0 := 0) GX11_in kX11_sheet_15 rfl rfl (Nat.le_of_ble_eq_true rfl) (Nat.le_of_ble_eq_true rfl) rfl trivial (e_in32 so (-1) 2) (Nat.le_of_ble_eq_true rfl) rfl (Nat.le_of_ble_eq_true rfl) (Nat.le_of_ble_eq_true rfl) rfl rfl ?_
  refine P0.b GX11_sheet 1 (ob := []) (cf' := (if (if (-1) ≤ so ∧ so ≤ 2 then 1 else 0) = 0 then 31 else 21, [some (.ref 0), some (.int s), some (.int so), some (.int n), none], [], hC g z w a b)) rfl trivial ?_
  rw [if_neg (show ¬ ((-1) ≤ so ∧ so ≤ 2) from h), if_pos rfl]
  refine P0.b GX11_sheet 1 (ob := []) (cf' := (33, [some (.ref 0), some (.int s), some (.int so), some (.int n), none], [.int (-2)], hC g z w a b)) rfl trivial ?_
  exact P0.ri (by decide +kernel) rfl rfl ⟨rfl, rfl⟩
set_option maxHeartbeats 1000000 in
theorem sheet_big_0 {g z : Nat → Int32} {w : Int64} {a b : Nat → Nat → Int32} (s n : Int32) (hs : 0 ≤ s ∧ s ≤ 3) (h : 40 < n) : P0 2 0 0 mX11_sheet (0, ent 5 [.ref 0, .int s, .int 0, .int n], [], hC g z w a b) (fun r h' => r = some (.int (-2)) ∧ h' = hC g z w a b) := by
  refine P0.b GX11_sheet 1 (ob := []) (cf' := (1, [some (.ref 0), some (.int s), some (.int 0), some (.int n), none], [.int s], hC g z w a b)) rfl trivial ?_
  refine P0.cr (io := []) (as := [.int s]) (rest := []) (hc := []) (hc1 := []) (r1 := some (.int (if 0 ≤ s ∧ s ≤ 3 then 1 else 0))) (st' := [.int (if 0 ≤ s ∧ s ≤ 3 then 1 else 0)]) (h' := hC g z w a b) (d0 := 1) GX11_isSheet kX11_sheet_1 rfl rfl (Nat.le_of_ble_eq_true rfl) (Nat.le_of_ble_eq_true rfl) rfl trivial (e_X11_isSheet s) (Nat.le_of_ble_eq_true rfl) rfl (Nat.le_of_ble_eq_true rfl) (Nat.le_of_ble_eq_true rfl) rfl rfl ?_
  refine P0.b GX11_sheet 1 (ob := []) (cf' := (if (if 0 ≤ s ∧ s ≤ 3 then 1 else 0) = 0 then 31 else 7, [some (.ref 0), some (.int s), some (.int 0), some (.int n), none], [], hC g z w a b)) rfl trivial ?_
  rw [if_pos (show 0 ≤ s ∧ s ≤ 3 from hs), if_neg (by decide)]
  refine P0.b GX11_sheet 4 (ob := []) (cf' := (15, [some (.ref 0), some (.int s), some (.int 0), some (.int n), none], [.long 2, .long (-1), .long ((0 : Int32).toInt64)], hC g z w a b)) rfl trivial ?_
  refine P0.cr (io := []) (as := [.long ((0 : Int32).toInt64), .long ((-1 : Int32).toInt64), .long ((2 : Int32).toInt64)]) (rest := []) (hc := []) (hc1 := []) (r1 := some (.int 1)) (st' := [.int 1]) (h' := hC g z w a b) (d0 := 0) GX11_in kX11_sheet_15 rfl rfl (Nat.le_of_ble_eq_true rfl) (Nat.le_of_ble_eq_true rfl) rfl trivial (in_yes (v := (0 : Int32)) (lo := (-1 : Int32)) (hi := (2 : Int32)) (by decide)) (Nat.le_of_ble_eq_true rfl) rfl (Nat.le_of_ble_eq_true rfl) (Nat.le_of_ble_eq_true rfl) rfl rfl ?_
  refine P0.b GX11_sheet 1 (ob := []) (cf' := (if (1 : Int32) = 0 then 31 else 21, [some (.ref 0), some (.int s), some (.int 0), some (.int n), none], [], hC g z w a b)) rfl trivial ?_
  rw [if_neg (show ¬ ((1 : Int32) = 0) from by decide)]
  refine P0.b GX11_sheet 2 (ob := []) (cf' := (if (0 : Int32) < 0 then 34 else 25, [some (.ref 0), some (.int s), some (.int 0), some (.int n), none], [], hC g z w a b)) rfl trivial ?_
  rw [if_neg (show ¬ ((0 : Int32) < 0) from by decide)]
  refine P0.b GX11_sheet 3 (ob := []) (cf' := (if n ≤ 40 then 34 else 31, [some (.ref 0), some (.int s), some (.int 0), some (.int n), none], [], hC g z w a b)) rfl trivial ?_
  rw [if_neg (show ¬ (n ≤ 40) from Int32.not_le.mpr h)]
  refine P0.b GX11_sheet 1 (ob := []) (cf' := (33, [some (.ref 0), some (.int s), some (.int 0), some (.int n), none], [.int (-2)], hC g z w a b)) rfl trivial ?_
  exact P0.ri (by decide +kernel) rfl rfl ⟨rfl, rfl⟩
set_option maxHeartbeats 1000000 in
theorem sheet_neg_0 {g z : Nat → Int32} {w : Int64} {a b : Nat → Nat → Int32} (s n : Int32) (hs : 0 ≤ s ∧ s ≤ 3) (h : n < 0) : P0 2 0 0 mX11_sheet (0, ent 5 [.ref 0, .int s, .int 0, .int n], [], hC g z w a b) (fun r h' => r = some (.int (-14)) ∧ h' = hC g z w a b) := by
  refine P0.b GX11_sheet 1 (ob := []) (cf' := (1, [some (.ref 0), some (.int s), some (.int 0), some (.int n), none], [.int s], hC g z w a b)) rfl trivial ?_
  refine P0.cr (io := []) (as := [.int s]) (rest := []) (hc := []) (hc1 := []) (r1 := some (.int (if 0 ≤ s ∧ s ≤ 3 then 1 else 0))) (st' := [.int (if 0 ≤ s ∧ s ≤ 3 then 1 else 0)]) (h' := hC g z w a b) (d0 := 1) GX11_isSheet kX11_sheet_1 rfl rfl (Nat.le_of_ble_eq_true rfl) (Nat.le_of_ble_eq_true rfl) rfl trivial (e_X11_isSheet s) (Nat.le_of_ble_eq_true rfl) rfl (Nat.le_of_ble_eq_true rfl) (Nat.le_of_ble_eq_true rfl) rfl rfl ?_
  refine P0.b GX11_sheet 1 (ob := []) (cf' := (if (if 0 ≤ s ∧ s ≤ 3 then 1 else 0) = 0 then 31 else 7, [some (.ref 0), some (.int s), some (.int 0), some (.int n), none], [], hC g z w a b)) rfl trivial ?_
  rw [if_pos (show 0 ≤ s ∧ s ≤ 3 from hs), if_neg (by decide)]
  refine P0.b GX11_sheet 4 (ob := []) (cf' := (15, [some (.ref 0), some (.int s), some (.int 0), some (.int n), none], [.long 2, .long (-1), .long ((0 : Int32).toInt64)], hC g z w a b)) rfl trivial ?_
  refine P0.cr (io := []) (as := [.long ((0 : Int32).toInt64), .long ((-1 : Int32).toInt64), .long ((2 : Int32).toInt64)]) (rest := []) (hc := []) (hc1 := []) (r1 := some (.int 1)) (st' := [.int 1]) (h' := hC g z w a b) (d0 := 0) GX11_in kX11_sheet_15 rfl rfl (Nat.le_of_ble_eq_true rfl) (Nat.le_of_ble_eq_true rfl) rfl trivial (in_yes (v := (0 : Int32)) (lo := (-1 : Int32)) (hi := (2 : Int32)) (by decide)) (Nat.le_of_ble_eq_true rfl) rfl (Nat.le_of_ble_eq_true rfl) (Nat.le_of_ble_eq_true rfl) rfl rfl ?_
  refine P0.b GX11_sheet 1 (ob := []) (cf' := (if (1 : Int32) = 0 then 31 else 21, [some (.ref 0), some (.int s), some (.int 0), some (.int n), none], [], hC g z w a b)) rfl trivial ?_
  rw [if_neg (show ¬ ((1 : Int32) = 0) from by decide)]
  refine P0.b GX11_sheet 2 (ob := []) (cf' := (if (0 : Int32) < 0 then 34 else 25, [some (.ref 0), some (.int s), some (.int 0), some (.int n), none], [], hC g z w a b)) rfl trivial ?_
  rw [if_neg (show ¬ ((0 : Int32) < 0) from by decide)]
  refine P0.b GX11_sheet 3 (ob := []) (cf' := (if n ≤ 40 then 34 else 31, [some (.ref 0), some (.int s), some (.int 0), some (.int n), none], [], hC g z w a b)) rfl trivial ?_
  rw [if_pos (show n ≤ 40 from Int32.le_of_lt (Int32.lt_of_lt_of_le h (by decide)))]
  refine P0.b GX11_sheet 2 (ob := []) (cf' := (if (0 : Int32) < 0 then 45 else 38, [some (.ref 0), some (.int s), some (.int 0), some (.int n), none], [], hC g z w a b)) rfl trivial ?_
  rw [if_neg (show ¬ ((0 : Int32) < 0) from by decide)]
  refine P0.b GX11_sheet 2 (ob := []) (cf' := (if 0 ≤ n then 45 else 42, [some (.ref 0), some (.int s), some (.int 0), some (.int n), none], [], hC g z w a b)) rfl trivial ?_
  rw [if_neg (show ¬ (0 ≤ n) from Int32.not_le.mpr h)]
  refine P0.b GX11_sheet 1 (ob := []) (cf' := (44, [some (.ref 0), some (.int s), some (.int 0), some (.int n), none], [.int (-14)], hC g z w a b)) rfl trivial ?_
  exact P0.ri (by decide +kernel) rfl rfl ⟨rfl, rfl⟩
theorem up2_self0 {b : Nat → Nat → Int32} {k : Nat} {f : Nat → Int32} (h : b k = f) : up2 b k f = b := by subst h; exact up2_self
set_option maxHeartbeats 1000000 in
theorem sheet_ok_0 {g z : Nat → Int32} {w : Int64} {a b : Nat → Nat → Int32} {i k : Nat} (hi : i < 4) (hk : k ≤ 40) : P0 2 0 0 mX11_sheet (0, ent 5 [.ref 0, .int (nI i), .int 0, .int (nI k)], [], hC g z w a b) (fun r h' => r = some (.int 1) ∧ h' = hC g z w (up2 (up2 (up2 (up2 a 14 (upd (a 14) i 1)) 15 (upd (a 15) i 0)) 16 (upd (a 16) i (nI k))) 17 (it (zerF i) k (a 17))) b) := by
  refine P0.b GX11_sheet 1 (ob := []) (cf' := (1, [some (.ref 0), some (.int (nI i)), some (.int 0), some (.int (nI k)), none], [.int (nI i)], hC g z w a b)) rfl trivial ?_
  refine P0.cr (io := []) (as := [.int (nI i)]) (rest := []) (hc := []) (hc1 := []) (r1 := some (.int (if 0 ≤ nI i ∧ nI i ≤ 3 then 1 else 0))) (st' := [.int (if 0 ≤ nI i ∧ nI i ≤ 3 then 1 else 0)]) (h' := hC g z w a b) (d0 := 1) GX11_isSheet kX11_sheet_1 rfl rfl (Nat.le_of_ble_eq_true rfl) (Nat.le_of_ble_eq_true rfl) rfl trivial (e_X11_isSheet (nI i)) (Nat.le_of_ble_eq_true rfl) rfl (Nat.le_of_ble_eq_true rfl) (Nat.le_of_ble_eq_true rfl) rfl rfl ?_
  refine P0.b GX11_sheet 1 (ob := []) (cf' := (if (if 0 ≤ nI i ∧ nI i ≤ 3 then 1 else 0) = 0 then 31 else 7, [some (.ref 0), some (.int (nI i)), some (.int 0), some (.int (nI k)), none], [], hC g z w a b)) rfl trivial ?_
  rw [if_pos (show 0 ≤ nI i ∧ nI i ≤ 3 from sh_ok hi), if_neg (by decide)]
  refine P0.b GX11_sheet 4 (ob := []) (cf' := (15, [some (.ref 0), some (.int (nI i)), some (.int 0), some (.int (nI k)), none], [.long 2, .long (-1), .long ((0 : Int32).toInt64)], hC g z w a b)) rfl trivial ?_
  refine P0.cr (io := []) (as := [.long ((0 : Int32).toInt64), .long ((-1 : Int32).toInt64), .long ((2 : Int32).toInt64)]) (rest := []) (hc := []) (hc1 := []) (r1 := some (.int 1)) (st' := [.int 1]) (h' := hC g z w a b) (d0 := 0) GX11_in kX11_sheet_15 rfl rfl (Nat.le_of_ble_eq_true rfl) (Nat.le_of_ble_eq_true rfl) rfl trivial (in_yes (v := (0 : Int32)) (lo := (-1 : Int32)) (hi := (2 : Int32)) (by decide)) (Nat.le_of_ble_eq_true rfl) rfl (Nat.le_of_ble_eq_true rfl) (Nat.le_of_ble_eq_true rfl) rfl rfl ?_
  refine P0.b GX11_sheet 1 (ob := []) (cf' := (if (1 : Int32) = 0 then 31 else 21, [some (.ref 0), some (.int (nI i)), some (.int 0), some (.int (nI k)), none], [], hC g z w a b)) rfl trivial ?_
  rw [if_neg (show ¬ ((1 : Int32) = 0) from by decide)]
  refine P0.b GX11_sheet 2 (ob := []) (cf' := (if (0 : Int32) < 0 then 34 else 25, [some (.ref 0), some (.int (nI i)), some (.int 0), some (.int (nI k)), none], [], hC g z w a b)) rfl trivial ?_
  rw [if_neg (show ¬ ((0 : Int32) < 0) from by decide)]
  refine P0.b GX11_sheet 3 (ob := []) (cf' := (if nI k ≤ 40 then 34 else 31, [some (.ref 0), some (.int (nI i)), some (.int 0), some (.int (nI k)), none], [], hC g z w a b)) rfl trivial ?_
  rw [if_pos (show nI k ≤ 40 from nI_le (b := 40) hk (by decide))]
  refine P0.b GX11_sheet 2 (ob := []) (cf' := (if (0 : Int32) < 0 then 45 else 38, [some (.ref 0), some (.int (nI i)), some (.int 0), some (.int (nI k)), none], [], hC g z w a b)) rfl trivial ?_
  rw [if_neg (show ¬ ((0 : Int32) < 0) from by decide)]
  refine P0.b GX11_sheet 2 (ob := []) (cf' := (if 0 ≤ nI k then 45 else 42, [some (.ref 0), some (.int (nI i)), some (.int 0), some (.int (nI k)), none], [], hC g z w a b)) rfl trivial ?_
  rw [if_pos (show 0 ≤ nI k from nI_pos' (by omega))]
  refine P0.b GX11_sheet 5 (ob := []) (cf' := (if (0 : Int32) < 0 then 58 else 54, [some (.ref 0), some (.int (nI i)), some (.int 0), some (.int (nI k)), none], [.int (nI i), .ref 14], hC g z w a b)) rfl trivial ?_
  rw [if_neg (show ¬ ((0 : Int32) < 0) from by decide)]
  refine P0.b GX11_sheet 3 (ob := [vp_in (nI i) 4, vp_nar .boolean 1 = 1]) (cf' := (60, [some (.ref 0), some (.int (nI i)), some (.int 0), some (.int (nI k)), none], [], hC g z w (up2 a 14 (upd (a 14) (nI i).toNatClampNeg 1)) b)) rfl ⟨(nI_vp hi (by decide)), rfl, trivial⟩ ?_
  rw [show (nI i).toNatClampNeg = i from nI_clamp (by omega)]
  refine P0.b GX11_sheet 5 (ob := [vp_in (nI i) 4]) (cf' := (67, [some (.ref 0), some (.int (nI i)), some (.int 0), some (.int (nI k)), none], [], hC g z w (up2 (up2 a 14 (upd (a 14) i 1)) 15 (upd (a 15) (nI i).toNatClampNeg 0)) b)) rfl ⟨(nI_vp hi (by decide)), trivial⟩ ?_
  rw [show (nI i).toNatClampNeg = i from nI_clamp (by omega)]
  refine P0.b GX11_sheet 5 (ob := [vp_in (nI i) 4]) (cf' := (74, [some (.ref 0), some (.int (nI i)), some (.int 0), some (.int (nI k)), none], [], hC g z w (up2 (up2 (up2 a 14 (upd (a 14) i 1)) 15 (upd (a 15) i 0)) 16 (upd (a 16) (nI i).toNatClampNeg (nI k))) b)) rfl ⟨(nI_vp hi (by decide)), trivial⟩ ?_
  rw [show (nI i).toNatClampNeg = i from nI_clamp (by omega)]
  refine P0.b GX11_sheet 2 (ob := []) (cf' := (77, [some (.ref 0), some (.int (nI i)), some (.int 0), some (.int (nI k)), some (.int 0)], [], hC g z w (up2 (up2 (up2 a 14 (upd (a 14) i 1)) 15 (upd (a 15) i 0)) 16 (upd (a 16) i (nI k))) b)) rfl trivial ?_
  rw [show up2 (up2 (up2 a 14 (upd (a 14) i 1)) 15 (upd (a 15) i 0)) 16 (upd (a 16) i (nI k)) = up2 (up2 (up2 (up2 a 14 (upd (a 14) i 1)) 15 (upd (a 15) i 0)) 16 (upd (a 16) i (nI k))) 17 (a 17) from (up2_self0 ((up2_n (by decide)).trans ((up2_n (by decide)).trans ((up2_n (by decide)).trans rfl)))).symm]
  refine P0.loop (N := k) (zerF i) (a 17) (fun x87 v87 => (77, [some (.ref 0), some (.int (nI i)), some (.int 0), some (.int (nI k)), some (.int x87)], [], hC g z w (up2 (up2 (up2 (up2 a 14 (upd (a 14) i 1)) 15 (upd (a 15) i 0)) 16 (upd (a 16) i (nI k))) 17 v87) b)) (fun i87 hi87 hk87 => ?_) ?_ 0 (a 17) nI_0.symm rfl
  · show P0 _ _ _ _ (77, [some (.ref 0), some (.int (nI i)), some (.int 0), some (.int (nI k)), some (.int (nI i87))], [], hC g z w (up2 (up2 (up2 (up2 a 14 (upd (a 14) i 1)) 15 (upd (a 15) i 0)) 16 (upd (a 16) i (nI k))) 17 (it (zerF i) i87 (a 17))) b) _
    refine P0.b GX11_sheet 3 (ob := []) (cf' := (if nI k ≤ nI i87 then 106 else 83, [some (.ref 0), some (.int (nI i)), some (.int 0), some (.int (nI k)), some (.int (nI i87))], [], hC g z w (up2 (up2 (up2 (up2 a 14 (upd (a 14) i 1)) 15 (upd (a 15) i 0)) 16 (upd (a 16) i (nI k))) 17 (it (zerF i) i87 (a 17))) b)) rfl trivial ?_
    rw [if_neg (show ¬ (nI k ≤ nI i87) from nI_ge hi87 (by omega))]
    refine P0.b GX11_sheet 2 (ob := []) (cf' := (if (0 : Int32) < 0 then 106 else 87, [some (.ref 0), some (.int (nI i)), some (.int 0), some (.int (nI k)), some (.int (nI i87))], [], hC g z w (up2 (up2 (up2 (up2 a 14 (upd (a 14) i 1)) 15 (upd (a 15) i 0)) 16 (upd (a 16) i (nI k))) 17 (it (zerF i) i87 (a 17))) b)) rfl trivial ?_
    rw [if_neg (show ¬ ((0 : Int32) < 0) from by decide)]
    refine P0.b GX11_sheet 8 (ob := []) (cf' := (99, [some (.ref 0), some (.int (nI i)), some (.int 0), some (.int (nI k)), some (.int (nI i87))], [.int 0, .int ((40 * (nI i)) + (nI i87)), .ref 17], hC g z w (up2 (up2 (up2 (up2 a 14 (upd (a 14) i 1)) 15 (upd (a 15) i 0)) 16 (upd (a 16) i (nI k))) 17 (it (zerF i) i87 (a 17))) b)) rfl trivial ?_
    refine P0.b GX11_sheet 1 (ob := [vp_in ((40 * (nI i)) + (nI i87)) 160]) (cf' := (100, [some (.ref 0), some (.int (nI i)), some (.int 0), some (.int (nI k)), some (.int (nI i87))], [], hC g z w (up2 (up2 (up2 (up2 a 14 (upd (a 14) i 1)) 15 (upd (a 15) i 0)) 16 (upd (a 16) i (nI k))) 17 (upd (it (zerF i) i87 (a 17)) ((40 * (nI i)) + (nI i87)).toNatClampNeg 0)) b)) rfl ⟨(it_in hi (by omega)), trivial⟩ ?_
    rw [show ((40 * (nI i)) + (nI i87)).toNatClampNeg = (40 * i + i87) from ix_2 (by omega) (by omega)]
    refine P0.b GX11_sheet 2 (ob := []) (cf' := (77, [some (.ref 0), some (.int (nI i)), some (.int 0), some (.int (nI k)), some (.int ((nI i87) + 1))], [], hC g z w (up2 (up2 (up2 (up2 a 14 (upd (a 14) i 1)) 15 (upd (a 15) i 0)) 16 (upd (a 16) i (nI k))) 17 (upd (it (zerF i) i87 (a 17)) (40 * i + i87) 0)) b)) rfl trivial ?_
    exact hk87 _ (upd (it (zerF i) i87 (a 17)) (40 * i + i87) 0) (nI_1 _) rfl
  · show P0 _ _ _ _ (77, [some (.ref 0), some (.int (nI i)), some (.int 0), some (.int (nI k)), some (.int (nI k))], [], hC g z w (up2 (up2 (up2 (up2 a 14 (upd (a 14) i 1)) 15 (upd (a 15) i 0)) 16 (upd (a 16) i (nI k))) 17 (it (zerF i) k (a 17))) b) _
    refine P0.b GX11_sheet 3 (ob := []) (cf' := (if nI k ≤ nI k then 106 else 83, [some (.ref 0), some (.int (nI i)), some (.int 0), some (.int (nI k)), some (.int (nI k))], [], hC g z w (up2 (up2 (up2 (up2 a 14 (upd (a 14) i 1)) 15 (upd (a 15) i 0)) 16 (upd (a 16) i (nI k))) 17 (it (zerF i) k (a 17))) b)) rfl trivial ?_
    rw [if_pos (show nI k ≤ nI k from Int32.le_refl _)]
    refine P0.b GX11_sheet 1 (ob := []) (cf' := (107, [some (.ref 0), some (.int (nI i)), some (.int 0), some (.int (nI k)), some (.int (nI k))], [.int 1], hC g z w (up2 (up2 (up2 (up2 a 14 (upd (a 14) i 1)) 15 (upd (a 15) i 0)) 16 (upd (a 16) i (nI k))) 17 (it (zerF i) k (a 17))) b)) rfl trivial ?_
    exact P0.ri (by decide +kernel) rfl rfl ⟨rfl, rfl⟩
set_option maxHeartbeats 1000000 in
theorem sheet_big_1 {g z : Nat → Int32} {w : Int64} {a b : Nat → Nat → Int32} (s n : Int32) (hs : 0 ≤ s ∧ s ≤ 3) (h : 40 < n) : P0 2 0 0 mX11_sheet (0, ent 5 [.ref 0, .int s, .int 1, .int n], [], hC g z w a b) (fun r h' => r = some (.int (-2)) ∧ h' = hC g z w a b) := by
  refine P0.b GX11_sheet 1 (ob := []) (cf' := (1, [some (.ref 0), some (.int s), some (.int 1), some (.int n), none], [.int s], hC g z w a b)) rfl trivial ?_
  refine P0.cr (io := []) (as := [.int s]) (rest := []) (hc := []) (hc1 := []) (r1 := some (.int (if 0 ≤ s ∧ s ≤ 3 then 1 else 0))) (st' := [.int (if 0 ≤ s ∧ s ≤ 3 then 1 else 0)]) (h' := hC g z w a b) (d0 := 1) GX11_isSheet kX11_sheet_1 rfl rfl (Nat.le_of_ble_eq_true rfl) (Nat.le_of_ble_eq_true rfl) rfl trivial (e_X11_isSheet s) (Nat.le_of_ble_eq_true rfl) rfl (Nat.le_of_ble_eq_true rfl) (Nat.le_of_ble_eq_true rfl) rfl rfl ?_
  refine P0.b GX11_sheet 1 (ob := []) (cf' := (if (if 0 ≤ s ∧ s ≤ 3 then 1 else 0) = 0 then 31 else 7, [some (.ref 0), some (.int s), some (.int 1), some (.int n), none], [], hC g z w a b)) rfl trivial ?_
  rw [if_pos (show 0 ≤ s ∧ s ≤ 3 from hs), if_neg (by decide)]
  refine P0.b GX11_sheet 4 (ob := []) (cf' := (15, [some (.ref 0), some (.int s), some (.int 1), some (.int n), none], [.long 2, .long (-1), .long ((1 : Int32).toInt64)], hC g z w a b)) rfl trivial ?_
  refine P0.cr (io := []) (as := [.long ((1 : Int32).toInt64), .long ((-1 : Int32).toInt64), .long ((2 : Int32).toInt64)]) (rest := []) (hc := []) (hc1 := []) (r1 := some (.int 1)) (st' := [.int 1]) (h' := hC g z w a b) (d0 := 0) GX11_in kX11_sheet_15 rfl rfl (Nat.le_of_ble_eq_true rfl) (Nat.le_of_ble_eq_true rfl) rfl trivial (in_yes (v := (1 : Int32)) (lo := (-1 : Int32)) (hi := (2 : Int32)) (by decide)) (Nat.le_of_ble_eq_true rfl) rfl (Nat.le_of_ble_eq_true rfl) (Nat.le_of_ble_eq_true rfl) rfl rfl ?_
  refine P0.b GX11_sheet 1 (ob := []) (cf' := (if (1 : Int32) = 0 then 31 else 21, [some (.ref 0), some (.int s), some (.int 1), some (.int n), none], [], hC g z w a b)) rfl trivial ?_
  rw [if_neg (show ¬ ((1 : Int32) = 0) from by decide)]
  refine P0.b GX11_sheet 2 (ob := []) (cf' := (if (1 : Int32) < 0 then 34 else 25, [some (.ref 0), some (.int s), some (.int 1), some (.int n), none], [], hC g z w a b)) rfl trivial ?_
  rw [if_neg (show ¬ ((1 : Int32) < 0) from by decide)]
  refine P0.b GX11_sheet 3 (ob := []) (cf' := (if n ≤ 40 then 34 else 31, [some (.ref 0), some (.int s), some (.int 1), some (.int n), none], [], hC g z w a b)) rfl trivial ?_
  rw [if_neg (show ¬ (n ≤ 40) from Int32.not_le.mpr h)]
  refine P0.b GX11_sheet 1 (ob := []) (cf' := (33, [some (.ref 0), some (.int s), some (.int 1), some (.int n), none], [.int (-2)], hC g z w a b)) rfl trivial ?_
  exact P0.ri (by decide +kernel) rfl rfl ⟨rfl, rfl⟩
set_option maxHeartbeats 1000000 in
theorem sheet_neg_1 {g z : Nat → Int32} {w : Int64} {a b : Nat → Nat → Int32} (s n : Int32) (hs : 0 ≤ s ∧ s ≤ 3) (h : n < 0) : P0 2 0 0 mX11_sheet (0, ent 5 [.ref 0, .int s, .int 1, .int n], [], hC g z w a b) (fun r h' => r = some (.int (-14)) ∧ h' = hC g z w a b) := by
  refine P0.b GX11_sheet 1 (ob := []) (cf' := (1, [some (.ref 0), some (.int s), some (.int 1), some (.int n), none], [.int s], hC g z w a b)) rfl trivial ?_
  refine P0.cr (io := []) (as := [.int s]) (rest := []) (hc := []) (hc1 := []) (r1 := some (.int (if 0 ≤ s ∧ s ≤ 3 then 1 else 0))) (st' := [.int (if 0 ≤ s ∧ s ≤ 3 then 1 else 0)]) (h' := hC g z w a b) (d0 := 1) GX11_isSheet kX11_sheet_1 rfl rfl (Nat.le_of_ble_eq_true rfl) (Nat.le_of_ble_eq_true rfl) rfl trivial (e_X11_isSheet s) (Nat.le_of_ble_eq_true rfl) rfl (Nat.le_of_ble_eq_true rfl) (Nat.le_of_ble_eq_true rfl) rfl rfl ?_
  refine P0.b GX11_sheet 1 (ob := []) (cf' := (if (if 0 ≤ s ∧ s ≤ 3 then 1 else 0) = 0 then 31 else 7, [some (.ref 0), some (.int s), some (.int 1), some (.int n), none], [], hC g z w a b)) rfl trivial ?_
  rw [if_pos (show 0 ≤ s ∧ s ≤ 3 from hs), if_neg (by decide)]
  refine P0.b GX11_sheet 4 (ob := []) (cf' := (15, [some (.ref 0), some (.int s), some (.int 1), some (.int n), none], [.long 2, .long (-1), .long ((1 : Int32).toInt64)], hC g z w a b)) rfl trivial ?_
  refine P0.cr (io := []) (as := [.long ((1 : Int32).toInt64), .long ((-1 : Int32).toInt64), .long ((2 : Int32).toInt64)]) (rest := []) (hc := []) (hc1 := []) (r1 := some (.int 1)) (st' := [.int 1]) (h' := hC g z w a b) (d0 := 0) GX11_in kX11_sheet_15 rfl rfl (Nat.le_of_ble_eq_true rfl) (Nat.le_of_ble_eq_true rfl) rfl trivial (in_yes (v := (1 : Int32)) (lo := (-1 : Int32)) (hi := (2 : Int32)) (by decide)) (Nat.le_of_ble_eq_true rfl) rfl (Nat.le_of_ble_eq_true rfl) (Nat.le_of_ble_eq_true rfl) rfl rfl ?_
  refine P0.b GX11_sheet 1 (ob := []) (cf' := (if (1 : Int32) = 0 then 31 else 21, [some (.ref 0), some (.int s), some (.int 1), some (.int n), none], [], hC g z w a b)) rfl trivial ?_
  rw [if_neg (show ¬ ((1 : Int32) = 0) from by decide)]
  refine P0.b GX11_sheet 2 (ob := []) (cf' := (if (1 : Int32) < 0 then 34 else 25, [some (.ref 0), some (.int s), some (.int 1), some (.int n), none], [], hC g z w a b)) rfl trivial ?_
  rw [if_neg (show ¬ ((1 : Int32) < 0) from by decide)]
  refine P0.b GX11_sheet 3 (ob := []) (cf' := (if n ≤ 40 then 34 else 31, [some (.ref 0), some (.int s), some (.int 1), some (.int n), none], [], hC g z w a b)) rfl trivial ?_
  rw [if_pos (show n ≤ 40 from Int32.le_of_lt (Int32.lt_of_lt_of_le h (by decide)))]
  refine P0.b GX11_sheet 2 (ob := []) (cf' := (if (1 : Int32) < 0 then 45 else 38, [some (.ref 0), some (.int s), some (.int 1), some (.int n), none], [], hC g z w a b)) rfl trivial ?_
  rw [if_neg (show ¬ ((1 : Int32) < 0) from by decide)]
  refine P0.b GX11_sheet 2 (ob := []) (cf' := (if 0 ≤ n then 45 else 42, [some (.ref 0), some (.int s), some (.int 1), some (.int n), none], [], hC g z w a b)) rfl trivial ?_
  rw [if_neg (show ¬ (0 ≤ n) from Int32.not_le.mpr h)]
  refine P0.b GX11_sheet 1 (ob := []) (cf' := (44, [some (.ref 0), some (.int s), some (.int 1), some (.int n), none], [.int (-14)], hC g z w a b)) rfl trivial ?_
  exact P0.ri (by decide +kernel) rfl rfl ⟨rfl, rfl⟩
set_option maxHeartbeats 1000000 in
theorem sheet_ok_1 {g z : Nat → Int32} {w : Int64} {a b : Nat → Nat → Int32} {i k : Nat} (hi : i < 4) (hk : k ≤ 40) : P0 2 0 0 mX11_sheet (0, ent 5 [.ref 0, .int (nI i), .int 1, .int (nI k)], [], hC g z w a b) (fun r h' => r = some (.int 1) ∧ h' = hC g z w (up2 (up2 (up2 (up2 a 14 (upd (a 14) i 1)) 15 (upd (a 15) i 1)) 16 (upd (a 16) i (nI k))) 17 (it (zerF i) k (a 17))) b) := by
  refine P0.b GX11_sheet 1 (ob := []) (cf' := (1, [some (.ref 0), some (.int (nI i)), some (.int 1), some (.int (nI k)), none], [.int (nI i)], hC g z w a b)) rfl trivial ?_
  refine P0.cr (io := []) (as := [.int (nI i)]) (rest := []) (hc := []) (hc1 := []) (r1 := some (.int (if 0 ≤ nI i ∧ nI i ≤ 3 then 1 else 0))) (st' := [.int (if 0 ≤ nI i ∧ nI i ≤ 3 then 1 else 0)]) (h' := hC g z w a b) (d0 := 1) GX11_isSheet kX11_sheet_1 rfl rfl (Nat.le_of_ble_eq_true rfl) (Nat.le_of_ble_eq_true rfl) rfl trivial (e_X11_isSheet (nI i)) (Nat.le_of_ble_eq_true rfl) rfl (Nat.le_of_ble_eq_true rfl) (Nat.le_of_ble_eq_true rfl) rfl rfl ?_
  refine P0.b GX11_sheet 1 (ob := []) (cf' := (if (if 0 ≤ nI i ∧ nI i ≤ 3 then 1 else 0) = 0 then 31 else 7, [some (.ref 0), some (.int (nI i)), some (.int 1), some (.int (nI k)), none], [], hC g z w a b)) rfl trivial ?_
  rw [if_pos (show 0 ≤ nI i ∧ nI i ≤ 3 from sh_ok hi), if_neg (by decide)]
  refine P0.b GX11_sheet 4 (ob := []) (cf' := (15, [some (.ref 0), some (.int (nI i)), some (.int 1), some (.int (nI k)), none], [.long 2, .long (-1), .long ((1 : Int32).toInt64)], hC g z w a b)) rfl trivial ?_
  refine P0.cr (io := []) (as := [.long ((1 : Int32).toInt64), .long ((-1 : Int32).toInt64), .long ((2 : Int32).toInt64)]) (rest := []) (hc := []) (hc1 := []) (r1 := some (.int 1)) (st' := [.int 1]) (h' := hC g z w a b) (d0 := 0) GX11_in kX11_sheet_15 rfl rfl (Nat.le_of_ble_eq_true rfl) (Nat.le_of_ble_eq_true rfl) rfl trivial (in_yes (v := (1 : Int32)) (lo := (-1 : Int32)) (hi := (2 : Int32)) (by decide)) (Nat.le_of_ble_eq_true rfl) rfl (Nat.le_of_ble_eq_true rfl) (Nat.le_of_ble_eq_true rfl) rfl rfl ?_
  refine P0.b GX11_sheet 1 (ob := []) (cf' := (if (1 : Int32) = 0 then 31 else 21, [some (.ref 0), some (.int (nI i)), some (.int 1), some (.int (nI k)), none], [], hC g z w a b)) rfl trivial ?_
  rw [if_neg (show ¬ ((1 : Int32) = 0) from by decide)]
  refine P0.b GX11_sheet 2 (ob := []) (cf' := (if (1 : Int32) < 0 then 34 else 25, [some (.ref 0), some (.int (nI i)), some (.int 1), some (.int (nI k)), none], [], hC g z w a b)) rfl trivial ?_
  rw [if_neg (show ¬ ((1 : Int32) < 0) from by decide)]
  refine P0.b GX11_sheet 3 (ob := []) (cf' := (if nI k ≤ 40 then 34 else 31, [some (.ref 0), some (.int (nI i)), some (.int 1), some (.int (nI k)), none], [], hC g z w a b)) rfl trivial ?_
  rw [if_pos (show nI k ≤ 40 from nI_le (b := 40) hk (by decide))]
  refine P0.b GX11_sheet 2 (ob := []) (cf' := (if (1 : Int32) < 0 then 45 else 38, [some (.ref 0), some (.int (nI i)), some (.int 1), some (.int (nI k)), none], [], hC g z w a b)) rfl trivial ?_
  rw [if_neg (show ¬ ((1 : Int32) < 0) from by decide)]
  refine P0.b GX11_sheet 2 (ob := []) (cf' := (if 0 ≤ nI k then 45 else 42, [some (.ref 0), some (.int (nI i)), some (.int 1), some (.int (nI k)), none], [], hC g z w a b)) rfl trivial ?_
  rw [if_pos (show 0 ≤ nI k from nI_pos' (by omega))]
  refine P0.b GX11_sheet 5 (ob := []) (cf' := (if (1 : Int32) < 0 then 58 else 54, [some (.ref 0), some (.int (nI i)), some (.int 1), some (.int (nI k)), none], [.int (nI i), .ref 14], hC g z w a b)) rfl trivial ?_
  rw [if_neg (show ¬ ((1 : Int32) < 0) from by decide)]
  refine P0.b GX11_sheet 3 (ob := [vp_in (nI i) 4, vp_nar .boolean 1 = 1]) (cf' := (60, [some (.ref 0), some (.int (nI i)), some (.int 1), some (.int (nI k)), none], [], hC g z w (up2 a 14 (upd (a 14) (nI i).toNatClampNeg 1)) b)) rfl ⟨(nI_vp hi (by decide)), rfl, trivial⟩ ?_
  rw [show (nI i).toNatClampNeg = i from nI_clamp (by omega)]
  refine P0.b GX11_sheet 5 (ob := [vp_in (nI i) 4]) (cf' := (67, [some (.ref 0), some (.int (nI i)), some (.int 1), some (.int (nI k)), none], [], hC g z w (up2 (up2 a 14 (upd (a 14) i 1)) 15 (upd (a 15) (nI i).toNatClampNeg 1)) b)) rfl ⟨(nI_vp hi (by decide)), trivial⟩ ?_
  rw [show (nI i).toNatClampNeg = i from nI_clamp (by omega)]
  refine P0.b GX11_sheet 5 (ob := [vp_in (nI i) 4]) (cf' := (74, [some (.ref 0), some (.int (nI i)), some (.int 1), some (.int (nI k)), none], [], hC g z w (up2 (up2 (up2 a 14 (upd (a 14) i 1)) 15 (upd (a 15) i 1)) 16 (upd (a 16) (nI i).toNatClampNeg (nI k))) b)) rfl ⟨(nI_vp hi (by decide)), trivial⟩ ?_
  rw [show (nI i).toNatClampNeg = i from nI_clamp (by omega)]
  refine P0.b GX11_sheet 2 (ob := []) (cf' := (77, [some (.ref 0), some (.int (nI i)), some (.int 1), some (.int (nI k)), some (.int 0)], [], hC g z w (up2 (up2 (up2 a 14 (upd (a 14) i 1)) 15 (upd (a 15) i 1)) 16 (upd (a 16) i (nI k))) b)) rfl trivial ?_
  rw [show up2 (up2 (up2 a 14 (upd (a 14) i 1)) 15 (upd (a 15) i 1)) 16 (upd (a 16) i (nI k)) = up2 (up2 (up2 (up2 a 14 (upd (a 14) i 1)) 15 (upd (a 15) i 1)) 16 (upd (a 16) i (nI k))) 17 (a 17) from (up2_self0 ((up2_n (by decide)).trans ((up2_n (by decide)).trans ((up2_n (by decide)).trans rfl)))).symm]
  refine P0.loop (N := k) (zerF i) (a 17) (fun x88 v88 => (77, [some (.ref 0), some (.int (nI i)), some (.int 1), some (.int (nI k)), some (.int x88)], [], hC g z w (up2 (up2 (up2 (up2 a 14 (upd (a 14) i 1)) 15 (upd (a 15) i 1)) 16 (upd (a 16) i (nI k))) 17 v88) b)) (fun i88 hi88 hk88 => ?_) ?_ 0 (a 17) nI_0.symm rfl
  · show P0 _ _ _ _ (77, [some (.ref 0), some (.int (nI i)), some (.int 1), some (.int (nI k)), some (.int (nI i88))], [], hC g z w (up2 (up2 (up2 (up2 a 14 (upd (a 14) i 1)) 15 (upd (a 15) i 1)) 16 (upd (a 16) i (nI k))) 17 (it (zerF i) i88 (a 17))) b) _
    refine P0.b GX11_sheet 3 (ob := []) (cf' := (if nI k ≤ nI i88 then 106 else 83, [some (.ref 0), some (.int (nI i)), some (.int 1), some (.int (nI k)), some (.int (nI i88))], [], hC g z w (up2 (up2 (up2 (up2 a 14 (upd (a 14) i 1)) 15 (upd (a 15) i 1)) 16 (upd (a 16) i (nI k))) 17 (it (zerF i) i88 (a 17))) b)) rfl trivial ?_
    rw [if_neg (show ¬ (nI k ≤ nI i88) from nI_ge hi88 (by omega))]
    refine P0.b GX11_sheet 2 (ob := []) (cf' := (if (1 : Int32) < 0 then 106 else 87, [some (.ref 0), some (.int (nI i)), some (.int 1), some (.int (nI k)), some (.int (nI i88))], [], hC g z w (up2 (up2 (up2 (up2 a 14 (upd (a 14) i 1)) 15 (upd (a 15) i 1)) 16 (upd (a 16) i (nI k))) 17 (it (zerF i) i88 (a 17))) b)) rfl trivial ?_
    rw [if_neg (show ¬ ((1 : Int32) < 0) from by decide)]
    refine P0.b GX11_sheet 8 (ob := []) (cf' := (99, [some (.ref 0), some (.int (nI i)), some (.int 1), some (.int (nI k)), some (.int (nI i88))], [.int 0, .int ((40 * (nI i)) + (nI i88)), .ref 17], hC g z w (up2 (up2 (up2 (up2 a 14 (upd (a 14) i 1)) 15 (upd (a 15) i 1)) 16 (upd (a 16) i (nI k))) 17 (it (zerF i) i88 (a 17))) b)) rfl trivial ?_
    refine P0.b GX11_sheet 1 (ob := [vp_in ((40 * (nI i)) + (nI i88)) 160]) (cf' := (100, [some (.ref 0), some (.int (nI i)), some (.int 1), some (.int (nI k)), some (.int (nI i88))], [], hC g z w (up2 (up2 (up2 (up2 a 14 (upd (a 14) i 1)) 15 (upd (a 15) i 1)) 16 (upd (a 16) i (nI k))) 17 (upd (it (zerF i) i88 (a 17)) ((40 * (nI i)) + (nI i88)).toNatClampNeg 0)) b)) rfl ⟨(it_in hi (by omega)), trivial⟩ ?_
    rw [show ((40 * (nI i)) + (nI i88)).toNatClampNeg = (40 * i + i88) from ix_2 (by omega) (by omega)]
    refine P0.b GX11_sheet 2 (ob := []) (cf' := (77, [some (.ref 0), some (.int (nI i)), some (.int 1), some (.int (nI k)), some (.int ((nI i88) + 1))], [], hC g z w (up2 (up2 (up2 (up2 a 14 (upd (a 14) i 1)) 15 (upd (a 15) i 1)) 16 (upd (a 16) i (nI k))) 17 (upd (it (zerF i) i88 (a 17)) (40 * i + i88) 0)) b)) rfl trivial ?_
    exact hk88 _ (upd (it (zerF i) i88 (a 17)) (40 * i + i88) 0) (nI_1 _) rfl
  · show P0 _ _ _ _ (77, [some (.ref 0), some (.int (nI i)), some (.int 1), some (.int (nI k)), some (.int (nI k))], [], hC g z w (up2 (up2 (up2 (up2 a 14 (upd (a 14) i 1)) 15 (upd (a 15) i 1)) 16 (upd (a 16) i (nI k))) 17 (it (zerF i) k (a 17))) b) _
    refine P0.b GX11_sheet 3 (ob := []) (cf' := (if nI k ≤ nI k then 106 else 83, [some (.ref 0), some (.int (nI i)), some (.int 1), some (.int (nI k)), some (.int (nI k))], [], hC g z w (up2 (up2 (up2 (up2 a 14 (upd (a 14) i 1)) 15 (upd (a 15) i 1)) 16 (upd (a 16) i (nI k))) 17 (it (zerF i) k (a 17))) b)) rfl trivial ?_
    rw [if_pos (show nI k ≤ nI k from Int32.le_refl _)]
    refine P0.b GX11_sheet 1 (ob := []) (cf' := (107, [some (.ref 0), some (.int (nI i)), some (.int 1), some (.int (nI k)), some (.int (nI k))], [.int 1], hC g z w (up2 (up2 (up2 (up2 a 14 (upd (a 14) i 1)) 15 (upd (a 15) i 1)) 16 (upd (a 16) i (nI k))) 17 (it (zerF i) k (a 17))) b)) rfl trivial ?_
    exact P0.ri (by decide +kernel) rfl rfl ⟨rfl, rfl⟩
set_option maxHeartbeats 1000000 in
theorem sheet_big_2 {g z : Nat → Int32} {w : Int64} {a b : Nat → Nat → Int32} (s n : Int32) (hs : 0 ≤ s ∧ s ≤ 3) (h : 40 < n) : P0 2 0 0 mX11_sheet (0, ent 5 [.ref 0, .int s, .int 2, .int n], [], hC g z w a b) (fun r h' => r = some (.int (-2)) ∧ h' = hC g z w a b) := by
  refine P0.b GX11_sheet 1 (ob := []) (cf' := (1, [some (.ref 0), some (.int s), some (.int 2), some (.int n), none], [.int s], hC g z w a b)) rfl trivial ?_
  refine P0.cr (io := []) (as := [.int s]) (rest := []) (hc := []) (hc1 := []) (r1 := some (.int (if 0 ≤ s ∧ s ≤ 3 then 1 else 0))) (st' := [.int (if 0 ≤ s ∧ s ≤ 3 then 1 else 0)]) (h' := hC g z w a b) (d0 := 1) GX11_isSheet kX11_sheet_1 rfl rfl (Nat.le_of_ble_eq_true rfl) (Nat.le_of_ble_eq_true rfl) rfl trivial (e_X11_isSheet s) (Nat.le_of_ble_eq_true rfl) rfl (Nat.le_of_ble_eq_true rfl) (Nat.le_of_ble_eq_true rfl) rfl rfl ?_
  refine P0.b GX11_sheet 1 (ob := []) (cf' := (if (if 0 ≤ s ∧ s ≤ 3 then 1 else 0) = 0 then 31 else 7, [some (.ref 0), some (.int s), some (.int 2), some (.int n), none], [], hC g z w a b)) rfl trivial ?_
  rw [if_pos (show 0 ≤ s ∧ s ≤ 3 from hs), if_neg (by decide)]
  refine P0.b GX11_sheet 4 (ob := []) (cf' := (15, [some (.ref 0), some (.int s), some (.int 2), some (.int n), none], [.long 2, .long (-1), .long ((2 : Int32).toInt64)], hC g z w a b)) rfl trivial ?_
  refine P0.cr (io := []) (as := [.long ((2 : Int32).toInt64), .long ((-1 : Int32).toInt64), .long ((2 : Int32).toInt64)]) (rest := []) (hc := []) (hc1 := []) (r1 := some (.int 1)) (st' := [.int 1]) (h' := hC g z w a b) (d0 := 0) GX11_in kX11_sheet_15 rfl rfl (Nat.le_of_ble_eq_true rfl) (Nat.le_of_ble_eq_true rfl) rfl trivial (in_yes (v := (2 : Int32)) (lo := (-1 : Int32)) (hi := (2 : Int32)) (by decide)) (Nat.le_of_ble_eq_true rfl) rfl (Nat.le_of_ble_eq_true rfl) (Nat.le_of_ble_eq_true rfl) rfl rfl ?_
  refine P0.b GX11_sheet 1 (ob := []) (cf' := (if (1 : Int32) = 0 then 31 else 21, [some (.ref 0), some (.int s), some (.int 2), some (.int n), none], [], hC g z w a b)) rfl trivial ?_
  rw [if_neg (show ¬ ((1 : Int32) = 0) from by decide)]
  refine P0.b GX11_sheet 2 (ob := []) (cf' := (if (2 : Int32) < 0 then 34 else 25, [some (.ref 0), some (.int s), some (.int 2), some (.int n), none], [], hC g z w a b)) rfl trivial ?_
  rw [if_neg (show ¬ ((2 : Int32) < 0) from by decide)]
  refine P0.b GX11_sheet 3 (ob := []) (cf' := (if n ≤ 40 then 34 else 31, [some (.ref 0), some (.int s), some (.int 2), some (.int n), none], [], hC g z w a b)) rfl trivial ?_
  rw [if_neg (show ¬ (n ≤ 40) from Int32.not_le.mpr h)]
  refine P0.b GX11_sheet 1 (ob := []) (cf' := (33, [some (.ref 0), some (.int s), some (.int 2), some (.int n), none], [.int (-2)], hC g z w a b)) rfl trivial ?_
  exact P0.ri (by decide +kernel) rfl rfl ⟨rfl, rfl⟩
set_option maxHeartbeats 1000000 in
theorem sheet_neg_2 {g z : Nat → Int32} {w : Int64} {a b : Nat → Nat → Int32} (s n : Int32) (hs : 0 ≤ s ∧ s ≤ 3) (h : n < 0) : P0 2 0 0 mX11_sheet (0, ent 5 [.ref 0, .int s, .int 2, .int n], [], hC g z w a b) (fun r h' => r = some (.int (-14)) ∧ h' = hC g z w a b) := by
  refine P0.b GX11_sheet 1 (ob := []) (cf' := (1, [some (.ref 0), some (.int s), some (.int 2), some (.int n), none], [.int s], hC g z w a b)) rfl trivial ?_
  refine P0.cr (io := []) (as := [.int s]) (rest := []) (hc := []) (hc1 := []) (r1 := some (.int (if 0 ≤ s ∧ s ≤ 3 then 1 else 0))) (st' := [.int (if 0 ≤ s ∧ s ≤ 3 then 1 else 0)]) (h' := hC g z w a b) (d0 := 1) GX11_isSheet kX11_sheet_1 rfl rfl (Nat.le_of_ble_eq_true rfl) (Nat.le_of_ble_eq_true rfl) rfl trivial (e_X11_isSheet s) (Nat.le_of_ble_eq_true rfl) rfl (Nat.le_of_ble_eq_true rfl) (Nat.le_of_ble_eq_true rfl) rfl rfl ?_
  refine P0.b GX11_sheet 1 (ob := []) (cf' := (if (if 0 ≤ s ∧ s ≤ 3 then 1 else 0) = 0 then 31 else 7, [some (.ref 0), some (.int s), some (.int 2), some (.int n), none], [], hC g z w a b)) rfl trivial ?_
  rw [if_pos (show 0 ≤ s ∧ s ≤ 3 from hs), if_neg (by decide)]
  refine P0.b GX11_sheet 4 (ob := []) (cf' := (15, [some (.ref 0), some (.int s), some (.int 2), some (.int n), none], [.long 2, .long (-1), .long ((2 : Int32).toInt64)], hC g z w a b)) rfl trivial ?_
  refine P0.cr (io := []) (as := [.long ((2 : Int32).toInt64), .long ((-1 : Int32).toInt64), .long ((2 : Int32).toInt64)]) (rest := []) (hc := []) (hc1 := []) (r1 := some (.int 1)) (st' := [.int 1]) (h' := hC g z w a b) (d0 := 0) GX11_in kX11_sheet_15 rfl rfl (Nat.le_of_ble_eq_true rfl) (Nat.le_of_ble_eq_true rfl) rfl trivial (in_yes (v := (2 : Int32)) (lo := (-1 : Int32)) (hi := (2 : Int32)) (by decide)) (Nat.le_of_ble_eq_true rfl) rfl (Nat.le_of_ble_eq_true rfl) (Nat.le_of_ble_eq_true rfl) rfl rfl ?_
  refine P0.b GX11_sheet 1 (ob := []) (cf' := (if (1 : Int32) = 0 then 31 else 21, [some (.ref 0), some (.int s), some (.int 2), some (.int n), none], [], hC g z w a b)) rfl trivial ?_
  rw [if_neg (show ¬ ((1 : Int32) = 0) from by decide)]
  refine P0.b GX11_sheet 2 (ob := []) (cf' := (if (2 : Int32) < 0 then 34 else 25, [some (.ref 0), some (.int s), some (.int 2), some (.int n), none], [], hC g z w a b)) rfl trivial ?_
  rw [if_neg (show ¬ ((2 : Int32) < 0) from by decide)]
  refine P0.b GX11_sheet 3 (ob := []) (cf' := (if n ≤ 40 then 34 else 31, [some (.ref 0), some (.int s), some (.int 2), some (.int n), none], [], hC g z w a b)) rfl trivial ?_
  rw [if_pos (show n ≤ 40 from Int32.le_of_lt (Int32.lt_of_lt_of_le h (by decide)))]
  refine P0.b GX11_sheet 2 (ob := []) (cf' := (if (2 : Int32) < 0 then 45 else 38, [some (.ref 0), some (.int s), some (.int 2), some (.int n), none], [], hC g z w a b)) rfl trivial ?_
  rw [if_neg (show ¬ ((2 : Int32) < 0) from by decide)]
  refine P0.b GX11_sheet 2 (ob := []) (cf' := (if 0 ≤ n then 45 else 42, [some (.ref 0), some (.int s), some (.int 2), some (.int n), none], [], hC g z w a b)) rfl trivial ?_
  rw [if_neg (show ¬ (0 ≤ n) from Int32.not_le.mpr h)]
  refine P0.b GX11_sheet 1 (ob := []) (cf' := (44, [some (.ref 0), some (.int s), some (.int 2), some (.int n), none], [.int (-14)], hC g z w a b)) rfl trivial ?_
  exact P0.ri (by decide +kernel) rfl rfl ⟨rfl, rfl⟩
set_option maxHeartbeats 1000000 in
theorem sheet_ok_2 {g z : Nat → Int32} {w : Int64} {a b : Nat → Nat → Int32} {i k : Nat} (hi : i < 4) (hk : k ≤ 40) : P0 2 0 0 mX11_sheet (0, ent 5 [.ref 0, .int (nI i), .int 2, .int (nI k)], [], hC g z w a b) (fun r h' => r = some (.int 1) ∧ h' = hC g z w (up2 (up2 (up2 (up2 a 14 (upd (a 14) i 1)) 15 (upd (a 15) i 2)) 16 (upd (a 16) i (nI k))) 17 (it (zerF i) k (a 17))) b) := by
  refine P0.b GX11_sheet 1 (ob := []) (cf' := (1, [some (.ref 0), some (.int (nI i)), some (.int 2), some (.int (nI k)), none], [.int (nI i)], hC g z w a b)) rfl trivial ?_
  refine P0.cr (io := []) (as := [.int (nI i)]) (rest := []) (hc := []) (hc1 := []) (r1 := some (.int (if 0 ≤ nI i ∧ nI i ≤ 3 then 1 else 0))) (st' := [.int (if 0 ≤ nI i ∧ nI i ≤ 3 then 1 else 0)]) (h' := hC g z w a b) (d0 := 1) GX11_isSheet kX11_sheet_1 rfl rfl (Nat.le_of_ble_eq_true rfl) (Nat.le_of_ble_eq_true rfl) rfl trivial (e_X11_isSheet (nI i)) (Nat.le_of_ble_eq_true rfl) rfl (Nat.le_of_ble_eq_true rfl) (Nat.le_of_ble_eq_true rfl) rfl rfl ?_
  refine P0.b GX11_sheet 1 (ob := []) (cf' := (if (if 0 ≤ nI i ∧ nI i ≤ 3 then 1 else 0) = 0 then 31 else 7, [some (.ref 0), some (.int (nI i)), some (.int 2), some (.int (nI k)), none], [], hC g z w a b)) rfl trivial ?_
  rw [if_pos (show 0 ≤ nI i ∧ nI i ≤ 3 from sh_ok hi), if_neg (by decide)]
  refine P0.b GX11_sheet 4 (ob := []) (cf' := (15, [some (.ref 0), some (.int (nI i)), some (.int 2), some (.int (nI k)), none], [.long 2, .long (-1), .long ((2 : Int32).toInt64)], hC g z w a b)) rfl trivial ?_
  refine P0.cr (io := []) (as := [.long ((2 : Int32).toInt64), .long ((-1 : Int32).toInt64), .long ((2 : Int32).toInt64)]) (rest := []) (hc := []) (hc1 := []) (r1 := some (.int 1)) (st' := [.int 1]) (h' := hC g z w a b) (d0 := 0) GX11_in kX11_sheet_15 rfl rfl (Nat.le_of_ble_eq_true rfl) (Nat.le_of_ble_eq_true rfl) rfl trivial (in_yes (v := (2 : Int32)) (lo := (-1 : Int32)) (hi := (2 : Int32)) (by decide)) (Nat.le_of_ble_eq_true rfl) rfl (Nat.le_of_ble_eq_true rfl) (Nat.le_of_ble_eq_true rfl) rfl rfl ?_
  refine P0.b GX11_sheet 1 (ob := []) (cf' := (if (1 : Int32) = 0 then 31 else 21, [some (.ref 0), some (.int (nI i)), some (.int 2), some (.int (nI k)), none], [], hC g z w a b)) rfl trivial ?_
  rw [if_neg (show ¬ ((1 : Int32) = 0) from by decide)]
  refine P0.b GX11_sheet 2 (ob := []) (cf' := (if (2 : Int32) < 0 then 34 else 25, [some (.ref 0), some (.int (nI i)), some (.int 2), some (.int (nI k)), none], [], hC g z w a b)) rfl trivial ?_
  rw [if_neg (show ¬ ((2 : Int32) < 0) from by decide)]
  refine P0.b GX11_sheet 3 (ob := []) (cf' := (if nI k ≤ 40 then 34 else 31, [some (.ref 0), some (.int (nI i)), some (.int 2), some (.int (nI k)), none], [], hC g z w a b)) rfl trivial ?_
  rw [if_pos (show nI k ≤ 40 from nI_le (b := 40) hk (by decide))]
  refine P0.b GX11_sheet 2 (ob := []) (cf' := (if (2 : Int32) < 0 then 45 else 38, [some (.ref 0), some (.int (nI i)), some (.int 2), some (.int (nI k)), none], [], hC g z w a b)) rfl trivial ?_
  rw [if_neg (show ¬ ((2 : Int32) < 0) from by decide)]
  refine P0.b GX11_sheet 2 (ob := []) (cf' := (if 0 ≤ nI k then 45 else 42, [some (.ref 0), some (.int (nI i)), some (.int 2), some (.int (nI k)), none], [], hC g z w a b)) rfl trivial ?_
  rw [if_pos (show 0 ≤ nI k from nI_pos' (by omega))]
  refine P0.b GX11_sheet 5 (ob := []) (cf' := (if (2 : Int32) < 0 then 58 else 54, [some (.ref 0), some (.int (nI i)), some (.int 2), some (.int (nI k)), none], [.int (nI i), .ref 14], hC g z w a b)) rfl trivial ?_
  rw [if_neg (show ¬ ((2 : Int32) < 0) from by decide)]
  refine P0.b GX11_sheet 3 (ob := [vp_in (nI i) 4, vp_nar .boolean 1 = 1]) (cf' := (60, [some (.ref 0), some (.int (nI i)), some (.int 2), some (.int (nI k)), none], [], hC g z w (up2 a 14 (upd (a 14) (nI i).toNatClampNeg 1)) b)) rfl ⟨(nI_vp hi (by decide)), rfl, trivial⟩ ?_
  rw [show (nI i).toNatClampNeg = i from nI_clamp (by omega)]
  refine P0.b GX11_sheet 5 (ob := [vp_in (nI i) 4]) (cf' := (67, [some (.ref 0), some (.int (nI i)), some (.int 2), some (.int (nI k)), none], [], hC g z w (up2 (up2 a 14 (upd (a 14) i 1)) 15 (upd (a 15) (nI i).toNatClampNeg 2)) b)) rfl ⟨(nI_vp hi (by decide)), trivial⟩ ?_
  rw [show (nI i).toNatClampNeg = i from nI_clamp (by omega)]
  refine P0.b GX11_sheet 5 (ob := [vp_in (nI i) 4]) (cf' := (74, [some (.ref 0), some (.int (nI i)), some (.int 2), some (.int (nI k)), none], [], hC g z w (up2 (up2 (up2 a 14 (upd (a 14) i 1)) 15 (upd (a 15) i 2)) 16 (upd (a 16) (nI i).toNatClampNeg (nI k))) b)) rfl ⟨(nI_vp hi (by decide)), trivial⟩ ?_
  rw [show (nI i).toNatClampNeg = i from nI_clamp (by omega)]
  refine P0.b GX11_sheet 2 (ob := []) (cf' := (77, [some (.ref 0), some (.int (nI i)), some (.int 2), some (.int (nI k)), some (.int 0)], [], hC g z w (up2 (up2 (up2 a 14 (upd (a 14) i 1)) 15 (upd (a 15) i 2)) 16 (upd (a 16) i (nI k))) b)) rfl trivial ?_
  rw [show up2 (up2 (up2 a 14 (upd (a 14) i 1)) 15 (upd (a 15) i 2)) 16 (upd (a 16) i (nI k)) = up2 (up2 (up2 (up2 a 14 (upd (a 14) i 1)) 15 (upd (a 15) i 2)) 16 (upd (a 16) i (nI k))) 17 (a 17) from (up2_self0 ((up2_n (by decide)).trans ((up2_n (by decide)).trans ((up2_n (by decide)).trans rfl)))).symm]
  refine P0.loop (N := k) (zerF i) (a 17) (fun x89 v89 => (77, [some (.ref 0), some (.int (nI i)), some (.int 2), some (.int (nI k)), some (.int x89)], [], hC g z w (up2 (up2 (up2 (up2 a 14 (upd (a 14) i 1)) 15 (upd (a 15) i 2)) 16 (upd (a 16) i (nI k))) 17 v89) b)) (fun i89 hi89 hk89 => ?_) ?_ 0 (a 17) nI_0.symm rfl
  · show P0 _ _ _ _ (77, [some (.ref 0), some (.int (nI i)), some (.int 2), some (.int (nI k)), some (.int (nI i89))], [], hC g z w (up2 (up2 (up2 (up2 a 14 (upd (a 14) i 1)) 15 (upd (a 15) i 2)) 16 (upd (a 16) i (nI k))) 17 (it (zerF i) i89 (a 17))) b) _
    refine P0.b GX11_sheet 3 (ob := []) (cf' := (if nI k ≤ nI i89 then 106 else 83, [some (.ref 0), some (.int (nI i)), some (.int 2), some (.int (nI k)), some (.int (nI i89))], [], hC g z w (up2 (up2 (up2 (up2 a 14 (upd (a 14) i 1)) 15 (upd (a 15) i 2)) 16 (upd (a 16) i (nI k))) 17 (it (zerF i) i89 (a 17))) b)) rfl trivial ?_
    rw [if_neg (show ¬ (nI k ≤ nI i89) from nI_ge hi89 (by omega))]
    refine P0.b GX11_sheet 2 (ob := []) (cf' := (if (2 : Int32) < 0 then 106 else 87, [some (.ref 0), some (.int (nI i)), some (.int 2), some (.int (nI k)), some (.int (nI i89))], [], hC g z w (up2 (up2 (up2 (up2 a 14 (upd (a 14) i 1)) 15 (upd (a 15) i 2)) 16 (upd (a 16) i (nI k))) 17 (it (zerF i) i89 (a 17))) b)) rfl trivial ?_
    rw [if_neg (show ¬ ((2 : Int32) < 0) from by decide)]
    refine P0.b GX11_sheet 8 (ob := []) (cf' := (99, [some (.ref 0), some (.int (nI i)), some (.int 2), some (.int (nI k)), some (.int (nI i89))], [.int 0, .int ((40 * (nI i)) + (nI i89)), .ref 17], hC g z w (up2 (up2 (up2 (up2 a 14 (upd (a 14) i 1)) 15 (upd (a 15) i 2)) 16 (upd (a 16) i (nI k))) 17 (it (zerF i) i89 (a 17))) b)) rfl trivial ?_
    refine P0.b GX11_sheet 1 (ob := [vp_in ((40 * (nI i)) + (nI i89)) 160]) (cf' := (100, [some (.ref 0), some (.int (nI i)), some (.int 2), some (.int (nI k)), some (.int (nI i89))], [], hC g z w (up2 (up2 (up2 (up2 a 14 (upd (a 14) i 1)) 15 (upd (a 15) i 2)) 16 (upd (a 16) i (nI k))) 17 (upd (it (zerF i) i89 (a 17)) ((40 * (nI i)) + (nI i89)).toNatClampNeg 0)) b)) rfl ⟨(it_in hi (by omega)), trivial⟩ ?_
    rw [show ((40 * (nI i)) + (nI i89)).toNatClampNeg = (40 * i + i89) from ix_2 (by omega) (by omega)]
    refine P0.b GX11_sheet 2 (ob := []) (cf' := (77, [some (.ref 0), some (.int (nI i)), some (.int 2), some (.int (nI k)), some (.int ((nI i89) + 1))], [], hC g z w (up2 (up2 (up2 (up2 a 14 (upd (a 14) i 1)) 15 (upd (a 15) i 2)) 16 (upd (a 16) i (nI k))) 17 (upd (it (zerF i) i89 (a 17)) (40 * i + i89) 0)) b)) rfl trivial ?_
    exact hk89 _ (upd (it (zerF i) i89 (a 17)) (40 * i + i89) 0) (nI_1 _) rfl
  · show P0 _ _ _ _ (77, [some (.ref 0), some (.int (nI i)), some (.int 2), some (.int (nI k)), some (.int (nI k))], [], hC g z w (up2 (up2 (up2 (up2 a 14 (upd (a 14) i 1)) 15 (upd (a 15) i 2)) 16 (upd (a 16) i (nI k))) 17 (it (zerF i) k (a 17))) b) _
    refine P0.b GX11_sheet 3 (ob := []) (cf' := (if nI k ≤ nI k then 106 else 83, [some (.ref 0), some (.int (nI i)), some (.int 2), some (.int (nI k)), some (.int (nI k))], [], hC g z w (up2 (up2 (up2 (up2 a 14 (upd (a 14) i 1)) 15 (upd (a 15) i 2)) 16 (upd (a 16) i (nI k))) 17 (it (zerF i) k (a 17))) b)) rfl trivial ?_
    rw [if_pos (show nI k ≤ nI k from Int32.le_refl _)]
    refine P0.b GX11_sheet 1 (ob := []) (cf' := (107, [some (.ref 0), some (.int (nI i)), some (.int 2), some (.int (nI k)), some (.int (nI k))], [.int 1], hC g z w (up2 (up2 (up2 (up2 a 14 (upd (a 14) i 1)) 15 (upd (a 15) i 2)) 16 (upd (a 16) i (nI k))) 17 (it (zerF i) k (a 17))) b)) rfl trivial ?_
    exact P0.ri (by decide +kernel) rfl rfl ⟨rfl, rfl⟩
set_option maxHeartbeats 1000000 in
theorem sheet_miss {g z : Nat → Int32} {w : Int64} {a b : Nat → Nat → Int32} {i : Nat} (hi : i < 4) (n : Int32) : P0 2 0 0 mX11_sheet (0, ent 5 [.ref 0, .int (nI i), .int (-1), .int n], [], hC g z w a b) (fun r h' => r = some (.int 1) ∧ h' = hC g z w (up2 (up2 (up2 a 14 (upd (a 14) i 0)) 15 (upd (a 15) i (-1))) 16 (upd (a 16) i n)) b) := by
  refine P0.b GX11_sheet 1 (ob := []) (cf' := (1, [some (.ref 0), some (.int (nI i)), some (.int (-1)), some (.int n), none], [.int (nI i)], hC g z w a b)) rfl trivial ?_
  refine P0.cr (io := []) (as := [.int (nI i)]) (rest := []) (hc := []) (hc1 := []) (r1 := some (.int (if 0 ≤ nI i ∧ nI i ≤ 3 then 1 else 0))) (st' := [.int (if 0 ≤ nI i ∧ nI i ≤ 3 then 1 else 0)]) (h' := hC g z w a b) (d0 := 1) GX11_isSheet kX11_sheet_1 rfl rfl (Nat.le_of_ble_eq_true rfl) (Nat.le_of_ble_eq_true rfl) rfl trivial (e_X11_isSheet (nI i)) (Nat.le_of_ble_eq_true rfl) rfl (Nat.le_of_ble_eq_true rfl) (Nat.le_of_ble_eq_true rfl) rfl rfl ?_
  refine P0.b GX11_sheet 1 (ob := []) (cf' := (if (if 0 ≤ nI i ∧ nI i ≤ 3 then 1 else 0) = 0 then 31 else 7, [some (.ref 0), some (.int (nI i)), some (.int (-1)), some (.int n), none], [], hC g z w a b)) rfl trivial ?_
  rw [if_pos (show 0 ≤ nI i ∧ nI i ≤ 3 from sh_ok hi), if_neg (by decide)]
  refine P0.b GX11_sheet 4 (ob := []) (cf' := (15, [some (.ref 0), some (.int (nI i)), some (.int (-1)), some (.int n), none], [.long 2, .long (-1), .long ((-1 : Int32).toInt64)], hC g z w a b)) rfl trivial ?_
  refine P0.cr (io := []) (as := [.long ((-1 : Int32).toInt64), .long ((-1 : Int32).toInt64), .long ((2 : Int32).toInt64)]) (rest := []) (hc := []) (hc1 := []) (r1 := some (.int 1)) (st' := [.int 1]) (h' := hC g z w a b) (d0 := 0) GX11_in kX11_sheet_15 rfl rfl (Nat.le_of_ble_eq_true rfl) (Nat.le_of_ble_eq_true rfl) rfl trivial (in_yes (v := (-1 : Int32)) (lo := (-1 : Int32)) (hi := (2 : Int32)) (by decide)) (Nat.le_of_ble_eq_true rfl) rfl (Nat.le_of_ble_eq_true rfl) (Nat.le_of_ble_eq_true rfl) rfl rfl ?_
  refine P0.b GX11_sheet 1 (ob := []) (cf' := (if (1 : Int32) = 0 then 31 else 21, [some (.ref 0), some (.int (nI i)), some (.int (-1)), some (.int n), none], [], hC g z w a b)) rfl trivial ?_
  rw [if_neg (show ¬ ((1 : Int32) = 0) from by decide)]
  refine P0.b GX11_sheet 2 (ob := []) (cf' := (if (-1 : Int32) < 0 then 34 else 25, [some (.ref 0), some (.int (nI i)), some (.int (-1)), some (.int n), none], [], hC g z w a b)) rfl trivial ?_
  rw [if_pos (show ((-1 : Int32) < 0) from by decide)]
  refine P0.b GX11_sheet 2 (ob := []) (cf' := (if (-1 : Int32) < 0 then 45 else 38, [some (.ref 0), some (.int (nI i)), some (.int (-1)), some (.int n), none], [], hC g z w a b)) rfl trivial ?_
  rw [if_pos (show ((-1 : Int32) < 0) from by decide)]
  refine P0.b GX11_sheet 5 (ob := []) (cf' := (if (-1 : Int32) < 0 then 58 else 54, [some (.ref 0), some (.int (nI i)), some (.int (-1)), some (.int n), none], [.int (nI i), .ref 14], hC g z w a b)) rfl trivial ?_
  rw [if_pos (show ((-1 : Int32) < 0) from by decide)]
  refine P0.b GX11_sheet 2 (ob := [vp_in (nI i) 4, vp_nar .boolean 0 = 0]) (cf' := (60, [some (.ref 0), some (.int (nI i)), some (.int (-1)), some (.int n), none], [], hC g z w (up2 a 14 (upd (a 14) (nI i).toNatClampNeg 0)) b)) rfl ⟨(nI_vp hi (by decide)), rfl, trivial⟩ ?_
  rw [show (nI i).toNatClampNeg = i from nI_clamp (by omega)]
  refine P0.b GX11_sheet 5 (ob := [vp_in (nI i) 4]) (cf' := (67, [some (.ref 0), some (.int (nI i)), some (.int (-1)), some (.int n), none], [], hC g z w (up2 (up2 a 14 (upd (a 14) i 0)) 15 (upd (a 15) (nI i).toNatClampNeg (-1))) b)) rfl ⟨(nI_vp hi (by decide)), trivial⟩ ?_
  rw [show (nI i).toNatClampNeg = i from nI_clamp (by omega)]
  refine P0.b GX11_sheet 5 (ob := [vp_in (nI i) 4]) (cf' := (74, [some (.ref 0), some (.int (nI i)), some (.int (-1)), some (.int n), none], [], hC g z w (up2 (up2 (up2 a 14 (upd (a 14) i 0)) 15 (upd (a 15) i (-1))) 16 (upd (a 16) (nI i).toNatClampNeg n)) b)) rfl ⟨(nI_vp hi (by decide)), trivial⟩ ?_
  rw [show (nI i).toNatClampNeg = i from nI_clamp (by omega)]
  refine P0.b GX11_sheet 2 (ob := []) (cf' := (77, [some (.ref 0), some (.int (nI i)), some (.int (-1)), some (.int n), some (.int 0)], [], hC g z w (up2 (up2 (up2 a 14 (upd (a 14) i 0)) 15 (upd (a 15) i (-1))) 16 (upd (a 16) i n)) b)) rfl trivial ?_
  refine P0.b GX11_sheet 3 (ob := []) (cf' := (if n ≤ 0 then 106 else 83, [some (.ref 0), some (.int (nI i)), some (.int (-1)), some (.int n), some (.int 0)], [], hC g z w (up2 (up2 (up2 a 14 (upd (a 14) i 0)) 15 (upd (a 15) i (-1))) 16 (upd (a 16) i n)) b)) rfl trivial ?_
  refine P0.if (fun h1 => ?_) (fun h1 => ?_)
  · refine P0.b GX11_sheet 1 (ob := []) (cf' := (107, [some (.ref 0), some (.int (nI i)), some (.int (-1)), some (.int n), some (.int 0)], [.int 1], hC g z w (up2 (up2 (up2 a 14 (upd (a 14) i 0)) 15 (upd (a 15) i (-1))) 16 (upd (a 16) i n)) b)) rfl trivial ?_
    exact P0.ri (by decide +kernel) rfl rfl ⟨rfl, rfl⟩
  · refine P0.b GX11_sheet 2 (ob := []) (cf' := (if (-1 : Int32) < 0 then 106 else 87, [some (.ref 0), some (.int (nI i)), some (.int (-1)), some (.int n), some (.int 0)], [], hC g z w (up2 (up2 (up2 a 14 (upd (a 14) i 0)) 15 (upd (a 15) i (-1))) 16 (upd (a 16) i n)) b)) rfl trivial ?_
    rw [if_pos (show ((-1 : Int32) < 0) from by decide)]
    refine P0.b GX11_sheet 1 (ob := []) (cf' := (107, [some (.ref 0), some (.int (nI i)), some (.int (-1)), some (.int n), some (.int 0)], [.int 1], hC g z w (up2 (up2 (up2 a 14 (upd (a 14) i 0)) 15 (upd (a 15) i (-1))) 16 (upd (a 16) i n)) b)) rfl trivial ?_
    exact P0.ri (by decide +kernel) rfl rfl ⟨rfl, rfl⟩
set_option maxHeartbeats 1000000 in
theorem cell_bad {g z : Nat → Int32} {w : Int64} {a b : Nat → Nat → Int32} (s x v : Int32) (h : ¬ (0 ≤ s ∧ s ≤ 3)) : P0 2 0 0 mX11_cell (0, ent 4 [.ref 0, .int s, .int x, .int v], [], hC g z w a b) (fun r h' => r = some (.int (-2)) ∧ h' = hC g z w a b) := by
  refine P0.b GX11_cell 1 (ob := []) (cf' := (1, [some (.ref 0), some (.int s), some (.int x), some (.int v)], [.int s], hC g z w a b)) rfl trivial ?_
  refine P0.cr (io := []) (as := [.int s]) (rest := []) (hc := []) (hc1 := []) (r1 := some (.int (if 0 ≤ s ∧ s ≤ 3 then 1 else 0))) (st' := [.int (if 0 ≤ s ∧ s ≤ 3 then 1 else 0)]) (h' := hC g z w a b) (d0 := 1) GX11_isSheet kX11_cell_1 rfl rfl (Nat.le_of_ble_eq_true rfl) (Nat.le_of_ble_eq_true rfl) rfl trivial (e_X11_isSheet s) (Nat.le_of_ble_eq_true rfl) rfl (Nat.le_of_ble_eq_true rfl) (Nat.le_of_ble_eq_true rfl) rfl rfl ?_
  refine P0.b GX11_cell 1 (ob := []) (cf' := (if (if 0 ≤ s ∧ s ≤ 3 then 1 else 0) = 0 then 7 else 10, [some (.ref 0), some (.int s), some (.int x), some (.int v)], [], hC g z w a b)) rfl trivial ?_
  rw [if_neg (show ¬ (0 ≤ s ∧ s ≤ 3) from h), if_pos rfl]
  refine P0.b GX11_cell 1 (ob := []) (cf' := (9, [some (.ref 0), some (.int s), some (.int x), some (.int v)], [.int (-2)], hC g z w a b)) rfl trivial ?_
  exact P0.ri (by decide +kernel) rfl rfl ⟨rfl, rfl⟩
set_option maxHeartbeats 1000000 in
theorem cell_none {g z : Nat → Int32} {w : Int64} {a b : Nat → Nat → Int32} {i : Nat} (hi : i < 4) (x v : Int32) (ht : a 14 i = 0) : P0 2 0 0 mX11_cell (0, ent 4 [.ref 0, .int (nI i), .int x, .int v], [], hC g z w a b) (fun r h' => r = some (.int (-11)) ∧ h' = hC g z w a b) := by
  refine P0.b GX11_cell 1 (ob := []) (cf' := (1, [some (.ref 0), some (.int (nI i)), some (.int x), some (.int v)], [.int (nI i)], hC g z w a b)) rfl trivial ?_
  refine P0.cr (io := []) (as := [.int (nI i)]) (rest := []) (hc := []) (hc1 := []) (r1 := some (.int (if 0 ≤ nI i ∧ nI i ≤ 3 then 1 else 0))) (st' := [.int (if 0 ≤ nI i ∧ nI i ≤ 3 then 1 else 0)]) (h' := hC g z w a b) (d0 := 1) GX11_isSheet kX11_cell_1 rfl rfl (Nat.le_of_ble_eq_true rfl) (Nat.le_of_ble_eq_true rfl) rfl trivial (e_X11_isSheet (nI i)) (Nat.le_of_ble_eq_true rfl) rfl (Nat.le_of_ble_eq_true rfl) (Nat.le_of_ble_eq_true rfl) rfl rfl ?_
  refine P0.b GX11_cell 1 (ob := []) (cf' := (if (if 0 ≤ nI i ∧ nI i ≤ 3 then 1 else 0) = 0 then 7 else 10, [some (.ref 0), some (.int (nI i)), some (.int x), some (.int v)], [], hC g z w a b)) rfl trivial ?_
  rw [if_pos (show 0 ≤ nI i ∧ nI i ≤ 3 from sh_ok hi), if_neg (by decide)]
  refine P0.b GX11_cell 5 (ob := [vp_in (nI i) 4]) (cf' := (if (a 14) (nI i).toNatClampNeg = 0 then 19 else 22, [some (.ref 0), some (.int (nI i)), some (.int x), some (.int v)], [], hC g z w a b)) rfl ⟨(nI_vp hi (by decide)), trivial⟩ ?_
  rw [show (nI i).toNatClampNeg = i from nI_clamp (by omega)]
  rw [if_pos (show (a 14) i = 0 from ht)]
  refine P0.b GX11_cell 1 (ob := []) (cf' := (21, [some (.ref 0), some (.int (nI i)), some (.int x), some (.int v)], [.int (-11)], hC g z w a b)) rfl trivial ?_
  exact P0.ri (by decide +kernel) rfl rfl ⟨rfl, rfl⟩
set_option maxHeartbeats 1000000 in
theorem cell_out {g z : Nat → Int32} {w : Int64} {a b : Nat → Nat → Int32} {i : Nat} (hi : i < 4) (x v : Int32) (ht : ¬ a 14 i = 0) (h : ¬ (0 ≤ x ∧ x ≤ a 16 i - 1)) : P0 2 0 0 mX11_cell (0, ent 4 [.ref 0, .int (nI i), .int x, .int v], [], hC g z w a b) (fun r h' => r = some (.int (-12)) ∧ h' = hC g z w a b) := by
  refine P0.b GX11_cell 1 (ob := []) (cf' := (1, [some (.ref 0), some (.int (nI i)), some (.int x), some (.int v)], [.int (nI i)], hC g z w a b)) rfl trivial ?_
  refine P0.cr (io := []) (as := [.int (nI i)]) (rest := []) (hc := []) (hc1 := []) (r1 := some (.int (if 0 ≤ nI i ∧ nI i ≤ 3 then 1 else 0))) (st' := [.int (if 0 ≤ nI i ∧ nI i ≤ 3 then 1 else 0)]) (h' := hC g z w a b) (d0 := 1) GX11_isSheet kX11_cell_1 rfl rfl (Nat.le_of_ble_eq_true rfl) (Nat.le_of_ble_eq_true rfl) rfl trivial (e_X11_isSheet (nI i)) (Nat.le_of_ble_eq_true rfl) rfl (Nat.le_of_ble_eq_true rfl) (Nat.le_of_ble_eq_true rfl) rfl rfl ?_
  refine P0.b GX11_cell 1 (ob := []) (cf' := (if (if 0 ≤ nI i ∧ nI i ≤ 3 then 1 else 0) = 0 then 7 else 10, [some (.ref 0), some (.int (nI i)), some (.int x), some (.int v)], [], hC g z w a b)) rfl trivial ?_
  rw [if_pos (show 0 ≤ nI i ∧ nI i ≤ 3 from sh_ok hi), if_neg (by decide)]
  refine P0.b GX11_cell 5 (ob := [vp_in (nI i) 4]) (cf' := (if (a 14) (nI i).toNatClampNeg = 0 then 19 else 22, [some (.ref 0), some (.int (nI i)), some (.int x), some (.int v)], [], hC g z w a b)) rfl ⟨(nI_vp hi (by decide)), trivial⟩ ?_
  rw [show (nI i).toNatClampNeg = i from nI_clamp (by omega)]
  rw [if_neg (show ¬ ((a 14) i = 0) from ht)]
  refine P0.b GX11_cell 8 (ob := [vp_in (nI i) 4]) (cf' := (32, [some (.ref 0), some (.int (nI i)), some (.int x), some (.int v)], [.int 1, .int ((a 16) (nI i).toNatClampNeg), .long 0, .long x.toInt64], hC g z w a b)) rfl ⟨(nI_vp hi (by decide)), trivial⟩ ?_
  rw [show (nI i).toNatClampNeg = i from nI_clamp (by omega)]
  refine P0.b GX11_cell 2 (ob := []) (cf' := (34, [some (.ref 0), some (.int (nI i)), some (.int x), some (.int v)], [.long ((((a 16) i) - 1).toInt64), .long 0, .long x.toInt64], hC g z w a b)) rfl trivial ?_
  refine P0.cr (io := []) (as := [.long x.toInt64, .long ((0 : Int32).toInt64), .long ((((a 16) i) - 1).toInt64)]) (rest := []) (hc := []) (hc1 := []) (r1 := some (.int (if 0 ≤ x ∧ x ≤ ((a 16) i) - 1 then 1 else 0))) (st' := [.int (if 0 ≤ x ∧ x ≤ ((a 16) i) - 1 then 1 else 0)]) (h' := hC g z w a b) (d0 := 0) GX11_in kX11_cell_34 rfl rfl (Nat.le_of_ble_eq_true rfl) (Nat.le_of_ble_eq_true rfl) rfl trivial (e_in32 x 0 (((a 16) i) - 1)) (Nat.le_of_ble_eq_true rfl) rfl (Nat.le_of_ble_eq_true rfl) (Nat.le_of_ble_eq_true rfl) rfl rfl ?_
  refine P0.b GX11_cell 1 (ob := []) (cf' := (if (if 0 ≤ x ∧ x ≤ ((a 16) i) - 1 then 1 else 0) = 0 then 40 else 43, [some (.ref 0), some (.int (nI i)), some (.int x), some (.int v)], [], hC g z w a b)) rfl trivial ?_
  rw [if_neg (show ¬ (0 ≤ x ∧ x ≤ ((a 16) i) - 1) from h), if_pos rfl]
  refine P0.b GX11_cell 1 (ob := []) (cf' := (42, [some (.ref 0), some (.int (nI i)), some (.int x), some (.int v)], [.int (-12)], hC g z w a b)) rfl trivial ?_
  exact P0.ri (by decide +kernel) rfl rfl ⟨rfl, rfl⟩
set_option maxHeartbeats 1000000 in
theorem cell_ok_0 {g z : Nat → Int32} {w : Int64} {a b : Nat → Nat → Int32} {i j : Nat} (hi : i < 4) (hj : j < 40) (v : Int32) (ht : ¬ a 14 i = 0) (h : 0 ≤ nI j ∧ nI j ≤ a 16 i - 1) (hs : a 15 i = 0) : P0 2 0 0 mX11_cell (0, ent 4 [.ref 0, .int (nI i), .int (nI j), .int v], [], hC g z w a b) (fun r h' => r = some (.int 1) ∧ h' = hC g z w (up2 a 17 (upd (a 17) (40 * i + j) (v.toInt8.toInt32))) b) := by
  refine P0.b GX11_cell 1 (ob := []) (cf' := (1, [some (.ref 0), some (.int (nI i)), some (.int (nI j)), some (.int v)], [.int (nI i)], hC g z w a b)) rfl trivial ?_
  refine P0.cr (io := []) (as := [.int (nI i)]) (rest := []) (hc := []) (hc1 := []) (r1 := some (.int (if 0 ≤ nI i ∧ nI i ≤ 3 then 1 else 0))) (st' := [.int (if 0 ≤ nI i ∧ nI i ≤ 3 then 1 else 0)]) (h' := hC g z w a b) (d0 := 1) GX11_isSheet kX11_cell_1 rfl rfl (Nat.le_of_ble_eq_true rfl) (Nat.le_of_ble_eq_true rfl) rfl trivial (e_X11_isSheet (nI i)) (Nat.le_of_ble_eq_true rfl) rfl (Nat.le_of_ble_eq_true rfl) (Nat.le_of_ble_eq_true rfl) rfl rfl ?_
  refine P0.b GX11_cell 1 (ob := []) (cf' := (if (if 0 ≤ nI i ∧ nI i ≤ 3 then 1 else 0) = 0 then 7 else 10, [some (.ref 0), some (.int (nI i)), some (.int (nI j)), some (.int v)], [], hC g z w a b)) rfl trivial ?_
  rw [if_pos (show 0 ≤ nI i ∧ nI i ≤ 3 from sh_ok hi), if_neg (by decide)]
  refine P0.b GX11_cell 5 (ob := [vp_in (nI i) 4]) (cf' := (if (a 14) (nI i).toNatClampNeg = 0 then 19 else 22, [some (.ref 0), some (.int (nI i)), some (.int (nI j)), some (.int v)], [], hC g z w a b)) rfl ⟨(nI_vp hi (by decide)), trivial⟩ ?_
  rw [show (nI i).toNatClampNeg = i from nI_clamp (by omega)]
  rw [if_neg (show ¬ ((a 14) i = 0) from ht)]
  refine P0.b GX11_cell 8 (ob := [vp_in (nI i) 4]) (cf' := (32, [some (.ref 0), some (.int (nI i)), some (.int (nI j)), some (.int v)], [.int 1, .int ((a 16) (nI i).toNatClampNeg), .long 0, .long ((nI j).toInt64)], hC g z w a b)) rfl ⟨(nI_vp hi (by decide)), trivial⟩ ?_
  rw [show (nI i).toNatClampNeg = i from nI_clamp (by omega)]
  refine P0.b GX11_cell 2 (ob := []) (cf' := (34, [some (.ref 0), some (.int (nI i)), some (.int (nI j)), some (.int v)], [.long ((((a 16) i) - 1).toInt64), .long 0, .long ((nI j).toInt64)], hC g z w a b)) rfl trivial ?_
  refine P0.cr (io := []) (as := [.long ((nI j).toInt64), .long ((0 : Int32).toInt64), .long ((((a 16) i) - 1).toInt64)]) (rest := []) (hc := []) (hc1 := []) (r1 := some (.int (if 0 ≤ nI j ∧ nI j ≤ ((a 16) i) - 1 then 1 else 0))) (st' := [.int (if 0 ≤ nI j ∧ nI j ≤ ((a 16) i) - 1 then 1 else 0)]) (h' := hC g z w a b) (d0 := 0) GX11_in kX11_cell_34 rfl rfl (Nat.le_of_ble_eq_true rfl) (Nat.le_of_ble_eq_true rfl) rfl trivial (e_in32 (nI j) 0 (((a 16) i) - 1)) (Nat.le_of_ble_eq_true rfl) rfl (Nat.le_of_ble_eq_true rfl) (Nat.le_of_ble_eq_true rfl) rfl rfl ?_
  refine P0.b GX11_cell 1 (ob := []) (cf' := (if (if 0 ≤ nI j ∧ nI j ≤ ((a 16) i) - 1 then 1 else 0) = 0 then 40 else 43, [some (.ref 0), some (.int (nI i)), some (.int (nI j)), some (.int v)], [], hC g z w a b)) rfl trivial ?_
  rw [if_pos (show 0 ≤ nI j ∧ nI j ≤ ((a 16) i) - 1 from h), if_neg (by decide)]
  refine P0.b GX11_cell 8 (ob := []) (cf' := (54, [some (.ref 0), some (.int (nI i)), some (.int (nI j)), some (.int v)], [.ref 0, .int ((40 * (nI i)) + (nI j)), .ref 17], hC g z w a b)) rfl trivial ?_
  refine P0.b GX11_cell 4 (ob := [vp_in (nI i) 4]) (cf' := (if (a 15) (nI i).toNatClampNeg = 0 then 62 else 67, [some (.ref 0), some (.int (nI i)), some (.int (nI j)), some (.int v)], [.int ((40 * (nI i)) + (nI j)), .ref 17], hC g z w a b)) rfl ⟨(nI_vp hi (by decide)), trivial⟩ ?_
  rw [show (nI i).toNatClampNeg = i from nI_clamp (by omega)]
  rw [if_pos (show (a 15) i = 0 from hs)]
  refine P0.b GX11_cell 4 (ob := [vp_in ((40 * (nI i)) + (nI j)) 160]) (cf' := (84, [some (.ref 0), some (.int (nI i)), some (.int (nI j)), some (.int v)], [], hC g z w (up2 a 17 (upd (a 17) ((40 * (nI i)) + (nI j)).toNatClampNeg v.toInt8.toInt32)) b)) rfl ⟨(it_in hi hj), trivial⟩ ?_
  rw [show ((40 * (nI i)) + (nI j)).toNatClampNeg = (40 * i + j) from ix_2 (by omega) (by omega)]
  refine P0.b GX11_cell 1 (ob := []) (cf' := (85, [some (.ref 0), some (.int (nI i)), some (.int (nI j)), some (.int v)], [.int 1], hC g z w (up2 a 17 (upd (a 17) (40 * i + j) v.toInt8.toInt32)) b)) rfl trivial ?_
  exact P0.ri (by decide +kernel) rfl rfl ⟨rfl, rfl⟩
set_option maxHeartbeats 1000000 in
theorem cell_ok_1 {g z : Nat → Int32} {w : Int64} {a b : Nat → Nat → Int32} {i j : Nat} (hi : i < 4) (hj : j < 40) (v : Int32) (ht : ¬ a 14 i = 0) (h : 0 ≤ nI j ∧ nI j ≤ a 16 i - 1) (hs : a 15 i = 1) : P0 2 0 0 mX11_cell (0, ent 4 [.ref 0, .int (nI i), .int (nI j), .int v], [], hC g z w a b) (fun r h' => r = some (.int 1) ∧ h' = hC g z w (up2 a 17 (upd (a 17) (40 * i + j) (v.toInt16.toInt32))) b) := by
  refine P0.b GX11_cell 1 (ob := []) (cf' := (1, [some (.ref 0), some (.int (nI i)), some (.int (nI j)), some (.int v)], [.int (nI i)], hC g z w a b)) rfl trivial ?_
  refine P0.cr (io := []) (as := [.int (nI i)]) (rest := []) (hc := []) (hc1 := []) (r1 := some (.int (if 0 ≤ nI i ∧ nI i ≤ 3 then 1 else 0))) (st' := [.int (if 0 ≤ nI i ∧ nI i ≤ 3 then 1 else 0)]) (h' := hC g z w a b) (d0 := 1) GX11_isSheet kX11_cell_1 rfl rfl (Nat.le_of_ble_eq_true rfl) (Nat.le_of_ble_eq_true rfl) rfl trivial (e_X11_isSheet (nI i)) (Nat.le_of_ble_eq_true rfl) rfl (Nat.le_of_ble_eq_true rfl) (Nat.le_of_ble_eq_true rfl) rfl rfl ?_
  refine P0.b GX11_cell 1 (ob := []) (cf' := (if (if 0 ≤ nI i ∧ nI i ≤ 3 then 1 else 0) = 0 then 7 else 10, [some (.ref 0), some (.int (nI i)), some (.int (nI j)), some (.int v)], [], hC g z w a b)) rfl trivial ?_
  rw [if_pos (show 0 ≤ nI i ∧ nI i ≤ 3 from sh_ok hi), if_neg (by decide)]
  refine P0.b GX11_cell 5 (ob := [vp_in (nI i) 4]) (cf' := (if (a 14) (nI i).toNatClampNeg = 0 then 19 else 22, [some (.ref 0), some (.int (nI i)), some (.int (nI j)), some (.int v)], [], hC g z w a b)) rfl ⟨(nI_vp hi (by decide)), trivial⟩ ?_
  rw [show (nI i).toNatClampNeg = i from nI_clamp (by omega)]
  rw [if_neg (show ¬ ((a 14) i = 0) from ht)]
  refine P0.b GX11_cell 8 (ob := [vp_in (nI i) 4]) (cf' := (32, [some (.ref 0), some (.int (nI i)), some (.int (nI j)), some (.int v)], [.int 1, .int ((a 16) (nI i).toNatClampNeg), .long 0, .long ((nI j).toInt64)], hC g z w a b)) rfl ⟨(nI_vp hi (by decide)), trivial⟩ ?_
  rw [show (nI i).toNatClampNeg = i from nI_clamp (by omega)]
  refine P0.b GX11_cell 2 (ob := []) (cf' := (34, [some (.ref 0), some (.int (nI i)), some (.int (nI j)), some (.int v)], [.long ((((a 16) i) - 1).toInt64), .long 0, .long ((nI j).toInt64)], hC g z w a b)) rfl trivial ?_
  refine P0.cr (io := []) (as := [.long ((nI j).toInt64), .long ((0 : Int32).toInt64), .long ((((a 16) i) - 1).toInt64)]) (rest := []) (hc := []) (hc1 := []) (r1 := some (.int (if 0 ≤ nI j ∧ nI j ≤ ((a 16) i) - 1 then 1 else 0))) (st' := [.int (if 0 ≤ nI j ∧ nI j ≤ ((a 16) i) - 1 then 1 else 0)]) (h' := hC g z w a b) (d0 := 0) GX11_in kX11_cell_34 rfl rfl (Nat.le_of_ble_eq_true rfl) (Nat.le_of_ble_eq_true rfl) rfl trivial (e_in32 (nI j) 0 (((a 16) i) - 1)) (Nat.le_of_ble_eq_true rfl) rfl (Nat.le_of_ble_eq_true rfl) (Nat.le_of_ble_eq_true rfl) rfl rfl ?_
  refine P0.b GX11_cell 1 (ob := []) (cf' := (if (if 0 ≤ nI j ∧ nI j ≤ ((a 16) i) - 1 then 1 else 0) = 0 then 40 else 43, [some (.ref 0), some (.int (nI i)), some (.int (nI j)), some (.int v)], [], hC g z w a b)) rfl trivial ?_
  rw [if_pos (show 0 ≤ nI j ∧ nI j ≤ ((a 16) i) - 1 from h), if_neg (by decide)]
  refine P0.b GX11_cell 8 (ob := []) (cf' := (54, [some (.ref 0), some (.int (nI i)), some (.int (nI j)), some (.int v)], [.ref 0, .int ((40 * (nI i)) + (nI j)), .ref 17], hC g z w a b)) rfl trivial ?_
  refine P0.b GX11_cell 4 (ob := [vp_in (nI i) 4]) (cf' := (if (a 15) (nI i).toNatClampNeg = 0 then 62 else 67, [some (.ref 0), some (.int (nI i)), some (.int (nI j)), some (.int v)], [.int ((40 * (nI i)) + (nI j)), .ref 17], hC g z w a b)) rfl ⟨(nI_vp hi (by decide)), trivial⟩ ?_
  rw [show (nI i).toNatClampNeg = i from nI_clamp (by omega)]
  rw [if_neg (show ¬ ((a 15) i = 0) from by rw [hs]; decide)]
  refine P0.b GX11_cell 6 (ob := [vp_in (nI i) 4]) (cf' := (if (a 15) (nI i).toNatClampNeg = 1 then 77 else 82, [some (.ref 0), some (.int (nI i)), some (.int (nI j)), some (.int v)], [.int ((40 * (nI i)) + (nI j)), .ref 17], hC g z w a b)) rfl ⟨(nI_vp hi (by decide)), trivial⟩ ?_
  rw [show (nI i).toNatClampNeg = i from nI_clamp (by omega)]
  rw [if_pos (show (a 15) i = 1 from hs)]
  refine P0.b GX11_cell 4 (ob := [vp_in ((40 * (nI i)) + (nI j)) 160]) (cf' := (84, [some (.ref 0), some (.int (nI i)), some (.int (nI j)), some (.int v)], [], hC g z w (up2 a 17 (upd (a 17) ((40 * (nI i)) + (nI j)).toNatClampNeg v.toInt16.toInt32)) b)) rfl ⟨(it_in hi hj), trivial⟩ ?_
  rw [show ((40 * (nI i)) + (nI j)).toNatClampNeg = (40 * i + j) from ix_2 (by omega) (by omega)]
  refine P0.b GX11_cell 1 (ob := []) (cf' := (85, [some (.ref 0), some (.int (nI i)), some (.int (nI j)), some (.int v)], [.int 1], hC g z w (up2 a 17 (upd (a 17) (40 * i + j) v.toInt16.toInt32)) b)) rfl trivial ?_
  exact P0.ri (by decide +kernel) rfl rfl ⟨rfl, rfl⟩
set_option maxHeartbeats 1000000 in
theorem cell_ok_2 {g z : Nat → Int32} {w : Int64} {a b : Nat → Nat → Int32} {i j : Nat} (hi : i < 4) (hj : j < 40) (v : Int32) (ht : ¬ a 14 i = 0) (h : 0 ≤ nI j ∧ nI j ≤ a 16 i - 1) (hs : a 15 i = 2) : P0 2 0 0 mX11_cell (0, ent 4 [.ref 0, .int (nI i), .int (nI j), .int v], [], hC g z w a b) (fun r h' => r = some (.int 1) ∧ h' = hC g z w (up2 a 17 (upd (a 17) (40 * i + j) (v))) b) := by
  refine P0.b GX11_cell 1 (ob := []) (cf' := (1, [some (.ref 0), some (.int (nI i)), some (.int (nI j)), some (.int v)], [.int (nI i)], hC g z w a b)) rfl trivial ?_
  refine P0.cr (io := []) (as := [.int (nI i)]) (rest := []) (hc := []) (hc1 := []) (r1 := some (.int (if 0 ≤ nI i ∧ nI i ≤ 3 then 1 else 0))) (st' := [.int (if 0 ≤ nI i ∧ nI i ≤ 3 then 1 else 0)]) (h' := hC g z w a b) (d0 := 1) GX11_isSheet kX11_cell_1 rfl rfl (Nat.le_of_ble_eq_true rfl) (Nat.le_of_ble_eq_true rfl) rfl trivial (e_X11_isSheet (nI i)) (Nat.le_of_ble_eq_true rfl) rfl (Nat.le_of_ble_eq_true rfl) (Nat.le_of_ble_eq_true rfl) rfl rfl ?_
  refine P0.b GX11_cell 1 (ob := []) (cf' := (if (if 0 ≤ nI i ∧ nI i ≤ 3 then 1 else 0) = 0 then 7 else 10, [some (.ref 0), some (.int (nI i)), some (.int (nI j)), some (.int v)], [], hC g z w a b)) rfl trivial ?_
  rw [if_pos (show 0 ≤ nI i ∧ nI i ≤ 3 from sh_ok hi), if_neg (by decide)]
  refine P0.b GX11_cell 5 (ob := [vp_in (nI i) 4]) (cf' := (if (a 14) (nI i).toNatClampNeg = 0 then 19 else 22, [some (.ref 0), some (.int (nI i)), some (.int (nI j)), some (.int v)], [], hC g z w a b)) rfl ⟨(nI_vp hi (by decide)), trivial⟩ ?_
  rw [show (nI i).toNatClampNeg = i from nI_clamp (by omega)]
  rw [if_neg (show ¬ ((a 14) i = 0) from ht)]
  refine P0.b GX11_cell 8 (ob := [vp_in (nI i) 4]) (cf' := (32, [some (.ref 0), some (.int (nI i)), some (.int (nI j)), some (.int v)], [.int 1, .int ((a 16) (nI i).toNatClampNeg), .long 0, .long ((nI j).toInt64)], hC g z w a b)) rfl ⟨(nI_vp hi (by decide)), trivial⟩ ?_
  rw [show (nI i).toNatClampNeg = i from nI_clamp (by omega)]
  refine P0.b GX11_cell 2 (ob := []) (cf' := (34, [some (.ref 0), some (.int (nI i)), some (.int (nI j)), some (.int v)], [.long ((((a 16) i) - 1).toInt64), .long 0, .long ((nI j).toInt64)], hC g z w a b)) rfl trivial ?_
  refine P0.cr (io := []) (as := [.long ((nI j).toInt64), .long ((0 : Int32).toInt64), .long ((((a 16) i) - 1).toInt64)]) (rest := []) (hc := []) (hc1 := []) (r1 := some (.int (if 0 ≤ nI j ∧ nI j ≤ ((a 16) i) - 1 then 1 else 0))) (st' := [.int (if 0 ≤ nI j ∧ nI j ≤ ((a 16) i) - 1 then 1 else 0)]) (h' := hC g z w a b) (d0 := 0) GX11_in kX11_cell_34 rfl rfl (Nat.le_of_ble_eq_true rfl) (Nat.le_of_ble_eq_true rfl) rfl trivial (e_in32 (nI j) 0 (((a 16) i) - 1)) (Nat.le_of_ble_eq_true rfl) rfl (Nat.le_of_ble_eq_true rfl) (Nat.le_of_ble_eq_true rfl) rfl rfl ?_
  refine P0.b GX11_cell 1 (ob := []) (cf' := (if (if 0 ≤ nI j ∧ nI j ≤ ((a 16) i) - 1 then 1 else 0) = 0 then 40 else 43, [some (.ref 0), some (.int (nI i)), some (.int (nI j)), some (.int v)], [], hC g z w a b)) rfl trivial ?_
  rw [if_pos (show 0 ≤ nI j ∧ nI j ≤ ((a 16) i) - 1 from h), if_neg (by decide)]
  refine P0.b GX11_cell 8 (ob := []) (cf' := (54, [some (.ref 0), some (.int (nI i)), some (.int (nI j)), some (.int v)], [.ref 0, .int ((40 * (nI i)) + (nI j)), .ref 17], hC g z w a b)) rfl trivial ?_
  refine P0.b GX11_cell 4 (ob := [vp_in (nI i) 4]) (cf' := (if (a 15) (nI i).toNatClampNeg = 0 then 62 else 67, [some (.ref 0), some (.int (nI i)), some (.int (nI j)), some (.int v)], [.int ((40 * (nI i)) + (nI j)), .ref 17], hC g z w a b)) rfl ⟨(nI_vp hi (by decide)), trivial⟩ ?_
  rw [show (nI i).toNatClampNeg = i from nI_clamp (by omega)]
  rw [if_neg (show ¬ ((a 15) i = 0) from by rw [hs]; decide)]
  refine P0.b GX11_cell 6 (ob := [vp_in (nI i) 4]) (cf' := (if (a 15) (nI i).toNatClampNeg = 1 then 77 else 82, [some (.ref 0), some (.int (nI i)), some (.int (nI j)), some (.int v)], [.int ((40 * (nI i)) + (nI j)), .ref 17], hC g z w a b)) rfl ⟨(nI_vp hi (by decide)), trivial⟩ ?_
  rw [show (nI i).toNatClampNeg = i from nI_clamp (by omega)]
  rw [if_neg (show ¬ ((a 15) i = 1) from by rw [hs]; decide)]
  refine P0.b GX11_cell 2 (ob := [vp_in ((40 * (nI i)) + (nI j)) 160]) (cf' := (84, [some (.ref 0), some (.int (nI i)), some (.int (nI j)), some (.int v)], [], hC g z w (up2 a 17 (upd (a 17) ((40 * (nI i)) + (nI j)).toNatClampNeg v)) b)) rfl ⟨(it_in hi hj), trivial⟩ ?_
  rw [show ((40 * (nI i)) + (nI j)).toNatClampNeg = (40 * i + j) from ix_2 (by omega) (by omega)]
  refine P0.b GX11_cell 1 (ob := []) (cf' := (85, [some (.ref 0), some (.int (nI i)), some (.int (nI j)), some (.int v)], [.int 1], hC g z w (up2 a 17 (upd (a 17) (40 * i + j) v)) b)) rfl trivial ?_
  exact P0.ri (by decide +kernel) rfl rfl ⟨rfl, rfl⟩
