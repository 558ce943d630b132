/-! ===== laid by program (wip/tools) ===== -/
set_option maxHeartbeats 1000000 in
theorem feed_no {g z : Nat → Int32} {w : Int64} {a b : Nat → Nat → Int32} (x : Int32) (h : ¬ (0 ≤ x ∧ x ≤ 255)) : P0 1 0 0 mX11_feed (0, ent 2 [.ref 0, .int x], [], hC g z w a b) (fun r h' => r = some (.int (-2)) ∧ h' = hC g z w a b) := by
  refine P0.b GX11_feed 4 (ob := []) (cf' := (6, [some (.ref 0), some (.int x)], [.long 255, .long 0, .long x.toInt64], hC g z w a b)) rfl trivial ?_
  refine P0.cr (io := []) (as := [.long x.toInt64, .long ((0 : Int32).toInt64), .long ((255 : Int32).toInt64)]) (rest := []) (hc := []) (hc1 := []) (r1 := some (.int (if 0 ≤ x ∧ x ≤ 255 then 1 else 0))) (st' := [.int (if 0 ≤ x ∧ x ≤ 255 then 1 else 0)]) (h' := hC g z w a b) (d0 := 0) GX11_in kX11_feed_6 rfl rfl (Nat.le_of_ble_eq_true rfl) (Nat.le_of_ble_eq_true rfl) rfl trivial (e_in32 x 0 255) (Nat.le_of_ble_eq_true rfl) rfl (Nat.le_of_ble_eq_true rfl) (Nat.le_of_ble_eq_true rfl) rfl rfl ?_
  refine P0.b GX11_feed 1 (ob := []) (cf' := (if (if 0 ≤ x ∧ x ≤ 255 then 1 else 0) = 0 then 12 else 15, [some (.ref 0), some (.int x)], [], hC g z w a b)) rfl trivial ?_
  rw [if_neg (show ¬ (0 ≤ x ∧ x ≤ 255) from h), if_pos rfl]
  refine P0.b GX11_feed 1 (ob := []) (cf' := (14, [some (.ref 0), some (.int x)], [.int (-2)], hC g z w a b)) rfl trivial ?_
  exact P0.ri (by decide +kernel) rfl rfl ⟨rfl, rfl⟩
set_option maxHeartbeats 1000000 in
theorem feed_full {g z : Nat → Int32} {w : Int64} {a b : Nat → Nat → Int32} (x : Int32) (h : 0 ≤ x ∧ x ≤ 255) (hf : g 6 = 160) : P0 1 0 0 mX11_feed (0, ent 2 [.ref 0, .int x], [], hC g z w a b) (fun r h' => r = some (.int (-4)) ∧ h' = hC g z w a b) := by
  refine P0.b GX11_feed 4 (ob := []) (cf' := (6, [some (.ref 0), some (.int x)], [.long 255, .long 0, .long x.toInt64], hC g z w a b)) rfl trivial ?_
  refine P0.cr (io := []) (as := [.long x.toInt64, .long ((0 : Int32).toInt64), .long ((255 : Int32).toInt64)]) (rest := []) (hc := []) (hc1 := []) (r1 := some (.int (if 0 ≤ x ∧ x ≤ 255 then 1 else 0))) (st' := [.int (if 0 ≤ x ∧ x ≤ 255 then 1 else 0)]) (h' := hC g z w a b) (d0 := 0) GX11_in kX11_feed_6 rfl rfl (Nat.le_of_ble_eq_true rfl) (Nat.le_of_ble_eq_true rfl) rfl trivial (e_in32 x 0 255) (Nat.le_of_ble_eq_true rfl) rfl (Nat.le_of_ble_eq_true rfl) (Nat.le_of_ble_eq_true rfl) rfl rfl ?_
  refine P0.b GX11_feed 1 (ob := []) (cf' := (if (if 0 ≤ x ∧ x ≤ 255 then 1 else 0) = 0 then 12 else 15, [some (.ref 0), some (.int x)], [], hC g z w a b)) rfl trivial ?_
  rw [if_pos (show 0 ≤ x ∧ x ≤ 255 from h), if_neg (by decide)]
  refine P0.b GX11_feed 4 (ob := []) (cf' := (if g 6 = 160 then 25 else 28, [some (.ref 0), some (.int x)], [], hC g z w a b)) rfl trivial ?_
  rw [if_pos (show g 6 = 160 from hf)]
  refine P0.b GX11_feed 1 (ob := []) (cf' := (27, [some (.ref 0), some (.int x)], [.int (-4)], hC g z w a b)) rfl trivial ?_
  exact P0.ri (by decide +kernel) rfl rfl ⟨rfl, rfl⟩
set_option maxHeartbeats 1000000 in
theorem feed_ok {g z : Nat → Int32} {w : Int64} {a b : Nat → Nat → Int32} (x : Int32) (h : 0 ≤ x ∧ x ≤ 255) {n : Nat} (hn : g 6 = nI n) (hn6 : n < 160) : P0 1 0 0 mX11_feed (0, ent 2 [.ref 0, .int x], [], hC g z w a b) (fun r h' => r = some (.int (nI (n + 1))) ∧ h' = hC (upd g 6 (nI (n + 1))) z w (up2 a 3 (upd (a 3) n x)) b) := by
  refine P0.b GX11_feed 4 (ob := []) (cf' := (6, [some (.ref 0), some (.int x)], [.long 255, .long 0, .long x.toInt64], hC g z w a b)) rfl trivial ?_
  refine P0.cr (io := []) (as := [.long x.toInt64, .long ((0 : Int32).toInt64), .long ((255 : Int32).toInt64)]) (rest := []) (hc := []) (hc1 := []) (r1 := some (.int (if 0 ≤ x ∧ x ≤ 255 then 1 else 0))) (st' := [.int (if 0 ≤ x ∧ x ≤ 255 then 1 else 0)]) (h' := hC g z w a b) (d0 := 0) GX11_in kX11_feed_6 rfl rfl (Nat.le_of_ble_eq_true rfl) (Nat.le_of_ble_eq_true rfl) rfl trivial (e_in32 x 0 255) (Nat.le_of_ble_eq_true rfl) rfl (Nat.le_of_ble_eq_true rfl) (Nat.le_of_ble_eq_true rfl) rfl rfl ?_
  refine P0.b GX11_feed 1 (ob := []) (cf' := (if (if 0 ≤ x ∧ x ≤ 255 then 1 else 0) = 0 then 12 else 15, [some (.ref 0), some (.int x)], [], hC g z w a b)) rfl trivial ?_
  rw [if_pos (show 0 ≤ x ∧ x ≤ 255 from h), if_neg (by decide)]
  refine P0.b GX11_feed 4 (ob := []) (cf' := (if g 6 = 160 then 25 else 28, [some (.ref 0), some (.int x)], [], hC g z w a b)) rfl trivial ?_
  rw [show g 6 = nI n from hn]
  rw [if_neg (show ¬ (nI n = 160) from by rw [show (160 : Int32) = nI 160 from rfl, nI_eq (by omega) (by decide)]; omega)]
  refine P0.b GX11_feed 5 (ob := []) (cf' := (37, [some (.ref 0), some (.int x)], [.int x, .int (g 6), .ref 3], hC g z w a b)) rfl trivial ?_
  rw [show g 6 = nI n from hn]
  refine P0.b GX11_feed 1 (ob := [vp_in (nI n) 160]) (cf' := (38, [some (.ref 0), some (.int x)], [], hC g z w (up2 a 3 (upd (a 3) (nI n).toNatClampNeg x)) b)) rfl ⟨(nI_vp hn6 (by decide)), trivial⟩ ?_
  rw [show (nI n).toNatClampNeg = n from nI_clamp (by omega)]
  refine P0.b GX11_feed 6 (ob := []) (cf' := (48, [some (.ref 0), some (.int x)], [], hC (upd g 6 ((g 6) + 1)) z w (up2 a 3 (upd (a 3) n x)) b)) rfl trivial ?_
  rw [show g 6 = nI n from hn]
  rw [show (nI n) + 1 = nI (n + 1) from nI_add _ _]
  refine P0.b GX11_feed 2 (ob := []) (cf' := (52, [some (.ref 0), some (.int x)], [.int (nI (n + 1))], hC (upd g 6 (nI (n + 1))) z w (up2 a 3 (upd (a 3) n x)) b)) rfl trivial ?_
  exact P0.ri (by decide +kernel) rfl rfl ⟨rfl, rfl⟩
set_option maxHeartbeats 1000000 in
theorem text_full {g z : Nat → Int32} {w : Int64} {a b : Nat → Nat → Int32} (h : g 3 = 6) : P0 42 0 0 mX11_text (0, ent 2 [.ref 0], [], hC g z w a b) (fun r h' => r = some (.int (-4)) ∧ h' = hC g z w a b) := by
  refine P0.b GX11_text 4 (ob := []) (cf' := (if g 3 = 6 then 9 else 12, [some (.ref 0), none], [], hC g z w a b)) rfl trivial ?_
  rw [if_pos (show g 3 = 6 from h)]
  refine P0.b GX11_text 1 (ob := []) (cf' := (11, [some (.ref 0), none], [.int (-4)], hC g z w a b)) rfl trivial ?_
  exact P0.ri (by decide +kernel) rfl rfl ⟨rfl, rfl⟩
theorem cpy_s {f g : Nat → Int32} {d k : Nat} : upd (va_cpy f g 0 d k) (d + k) (f k) = va_cpy f g 0 d (k + 1) := by
  funext y
  by_cases hy : y = d + k
  · rw [hy, pk_us, pk_cpy_in (by omega) (by omega), show 0 + (d + k - d) = k by omega]
  · rw [pk_un hy]
    by_cases h2 : d ≤ y ∧ y < d + k
    · rw [pk_cpy_in h2.1 h2.2, pk_cpy_in h2.1 (by omega)]
    · rw [pk_cpy_out (by omega), pk_cpy_out (by omega)]
theorem cpy_0 {f g : Nat → Int32} {d : Nat} : g = va_cpy f g 0 d 0 := by
  funext y
  exact (pk_cpy_out (by omega)).symm
/-- what reading a text comes to: a fault's place, or none -/
def txR (a : Nat → Nat → Int32) (tc n : Nat) (e : Nat → Int32) : Sum Nat (Int32 × Int32 × Int32) := rText (sg (Bt (va_cpy (a 3) (a 1) 0 (160 * tc) n) (160 * tc) n)) (nx (Bt (va_cpy (a 3) (a 1) 0 (160 * tc) n) (160 * tc) n)) (vA e) (skp (Bt (va_cpy (a 3) (a 1) 0 (160 * tc) n) (160 * tc) n) 0)
set_option maxHeartbeats 1000000 in
theorem text_bad {g z : Nat → Int32} {w : Int64} {a b : Nat → Nat → Int32} {tc n q : Nat} (htc : g 3 = nI tc) (htc6 : tc < 6) (hn : g 6 = nI n) (hn6 : n ≤ 160) (hT0 : TxOK (up2 (up2 a 1 (va_cpy (a 3) (a 1) 0 (160 * tc) n)) 2 (upd (a 2) tc (nI n))) (160 * tc) n) (hR : txR a tc n z = .inl q) : P0 42 0 0 mX11_text (0, ent 2 [.ref 0], [], hC g z w a b) (fun r h' => ∃ z' w', r = some (.int (-100 - nI q)) ∧ h' = hC (upd g 6 0) z' w' (up2 (up2 a 1 (va_cpy (a 3) (a 1) 0 (160 * tc) n)) 2 (upd (a 2) tc (nI n))) b) := by
  refine P0.b GX11_text 4 (ob := []) (cf' := (if g 3 = 6 then 9 else 12, [some (.ref 0), none], [], hC g z w a b)) rfl trivial ?_
  rw [show g 3 = nI tc from htc]
  rw [if_neg (show ¬ (nI tc = 6) from by rw [show (6 : Int32) = nI 6 from rfl, nI_eq (by omega) (by decide)]; omega)]
  refine P0.b GX11_text 2 (ob := []) (cf' := (14, [some (.ref 0), some (.int 0)], [], hC g z w a b)) rfl trivial ?_
  rw [show hC g z w a b = hC g z w (up2 a 1 (a 1)) b from by rw [up2_self]]
  refine P0.loopI (N := n) (fun k v => v = va_cpy (a 3) (a 1) 0 (160 * tc) k) (fun x105 v105 => (14, [some (.ref 0), some (.int x105)], [], hC g z w (up2 a 1 v105) b)) (fun i105 v105 hi105 hI105 hk105 => ?_) (fun v105 hI105 => ?_) 0 (a 1) nI_0.symm cpy_0
  · show P0 _ _ _ _ (14, [some (.ref 0), some (.int (nI i105))], [], hC g z w (up2 a 1 v105) b) _
    refine P0.b GX11_text 4 (ob := []) (cf' := (if g 6 ≤ nI i105 then 49 else 22, [some (.ref 0), some (.int (nI i105))], [], hC g z w (up2 a 1 v105) b)) rfl trivial ?_
    rw [show g 6 = nI n from hn]
    rw [if_neg (show ¬ (nI n ≤ nI i105) from nI_ge hi105 (by omega))]
    refine P0.b GX11_text 8 (ob := []) (cf' := (36, [some (.ref 0), some (.int (nI i105))], [.int ((160 * (g 3)) + (nI i105)), .ref 1], hC g z w (up2 a 1 v105) b)) rfl trivial ?_
    rw [show g 3 = nI tc from htc]
    rw [show (160 * (nI tc) : Int32) = nI (160 * tc) from pk_mul _ _]
    rw [show (nI (160 * tc)) + (nI i105) = nI ((160 * tc) + i105) from nI_add _ _]
    refine P0.b GX11_text 3 (ob := []) (cf' := (41, [some (.ref 0), some (.int (nI i105))], [.int (nI i105), .ref 3, .int (nI ((160 * tc) + i105)), .ref 1], hC g z w (up2 a 1 v105) b)) rfl trivial ?_
    refine P0.b GX11_text 1 (ob := [vp_in (nI i105) 160]) (cf' := (42, [some (.ref 0), some (.int (nI i105))], [.int ((a 3) (nI i105).toNatClampNeg), .int (nI ((160 * tc) + i105)), .ref 1], hC g z w (up2 a 1 v105) b)) rfl ⟨(nI_vp (by omega) (by decide)), trivial⟩ ?_
    rw [show (nI i105).toNatClampNeg = i105 from nI_clamp (by omega)]
    refine P0.b GX11_text 1 (ob := [vp_in (nI ((160 * tc) + i105)) 960]) (cf' := (43, [some (.ref 0), some (.int (nI i105))], [], hC g z w (up2 a 1 (upd v105 (nI ((160 * tc) + i105)).toNatClampNeg ((a 3) i105))) b)) rfl ⟨(nI_vp (by omega) (by decide)), trivial⟩ ?_
    rw [show (nI ((160 * tc) + i105)).toNatClampNeg = ((160 * tc) + i105) from nI_clamp (by omega)]
    refine P0.b GX11_text 2 (ob := []) (cf' := (14, [some (.ref 0), some (.int ((nI i105) + 1))], [], hC g z w (up2 a 1 (upd v105 ((160 * tc) + i105) ((a 3) i105))) b)) rfl trivial ?_
    rw [show (nI i105) + 1 = nI (i105 + 1) from nI_add _ _]
    exact hk105 _ (upd v105 ((160 * tc) + i105) ((a 3) i105)) rfl (by rw [hI105]; exact cpy_s)
  · show P0 _ _ _ _ (14, [some (.ref 0), some (.int (nI n))], [], hC g z w (up2 a 1 v105) b) _
    refine P0.b GX11_text 4 (ob := []) (cf' := (if g 6 ≤ nI n then 49 else 22, [some (.ref 0), some (.int (nI n))], [], hC g z w (up2 a 1 v105) b)) rfl trivial ?_
    rw [show g 6 = nI n from hn]
    rw [if_pos (show nI n ≤ nI n from Int32.le_refl _)]
    rw [hI105]
    refine P0.b GX11_text 6 (ob := []) (cf' := (61, [some (.ref 0), some (.int (nI n))], [.int (g 6), .int (g 3), .ref 2], hC g z w (up2 a 1 (va_cpy (a 3) (a 1) 0 (160 * tc) n)) b)) rfl trivial ?_
    rw [show g 6 = nI n from hn]
    rw [show g 3 = nI tc from htc]
    refine P0.b GX11_text 1 (ob := [vp_in (nI tc) 6]) (cf' := (62, [some (.ref 0), some (.int (nI n))], [], hC g z w (up2 (up2 a 1 (va_cpy (a 3) (a 1) 0 (160 * tc) n)) 2 (upd (a 2) (nI tc).toNatClampNeg (nI n))) b)) rfl ⟨(nI_vp (by omega) (by decide)), trivial⟩ ?_
    rw [show (nI tc).toNatClampNeg = tc from nI_clamp (by omega)]
    refine P0.b GX11_text 3 (ob := []) (cf' := (67, [some (.ref 0), some (.int (nI n))], [], hC (upd g 6 0) z w (up2 (up2 a 1 (va_cpy (a 3) (a 1) 0 (160 * tc) n)) 2 (upd (a 2) tc (nI n))) b)) rfl trivial ?_
    refine P0.b GX11_text 4 (ob := []) (cf' := (73, [some (.ref 0), some (.int (nI n))], [.int 0, .int (g 3), .ref 0], hC (upd g 6 0) z w (up2 (up2 a 1 (va_cpy (a 3) (a 1) 0 (160 * tc) n)) 2 (upd (a 2) tc (nI n))) b)) rfl trivial ?_
    rw [show g 3 = nI tc from htc]
    refine P0.cs (as := [.ref 0, .int (nI tc), .int 0]) (rest := []) GX11_read kX11_text_73 rfl ⟨_, _, rfl, rfl, .inl ⟨_, _, _, _, rfl, rfl⟩⟩ (Nat.le_of_ble_eq_true rfl) (Nat.le_of_ble_eq_true rfl) (P0.mono (e_X11_read (g := mx (upd g 6 0) z) (a := my (up2 (up2 a 1 (va_cpy (a 3) (a 1) 0 (160 * tc) n)) 2 (upd (a 2) tc (nI n))) b) htc6 rfl (show up2 (up2 a 1 (va_cpy (a 3) (a 1) 0 (160 * tc) n)) 2 (upd (a 2) tc (nI n)) 2 tc = nI n from by rw [up2_s, pk_us]) hT0 0 (z 18) (z 19) (z 20) (z 21) (z 22) w (z 24) (z 25) (z 26)) (Nat.le_of_ble_eq_true rfl) (Nat.zero_le _) (Nat.zero_le _) (fun _ _ q => q)) (Nat.le_of_ble_eq_true rfl) (fun _ _ q => q.len) ?_
    rintro r106 h106 hq106
    have hR2 : rText (sg (Bt (my (up2 (up2 a 1 (va_cpy (a 3) (a 1) 0 (160 * tc) n)) 2 (upd (a 2) tc (nI n))) b 1) (160 * tc) n)) (nx (Bt (my (up2 (up2 a 1 (va_cpy (a 3) (a 1) 0 (160 * tc) n)) 2 (upd (a 2) tc (nI n))) b 1) (160 * tc) n)) (vA (mx (upd g 6 0) z)) (skp (Bt (my (up2 (up2 a 1 (va_cpy (a 3) (a 1) 0 (160 * tc) n)) 2 (upd (a 2) tc (nI n))) b 1) (160 * tc) n) 0) = .inl q := hR
    rw [hR2] at hq106
    obtain ⟨v1, fr, n1, e, tk, p, w1, op, rfl, rfl⟩ := hq106
    rw [hT_hC]
    show P0 _ _ _ _ (76, [some (.ref 0), some (.int (nI n))], [.int v1], hC (upd g 6 0) (upd (upd (upd (upd (upd (upd (upd (upd z 18 fr) 19 n1) 20 e) 21 tk) 22 p) 24 op) 25 1) 26 (nI q)) w1 (up2 (up2 a 1 (va_cpy (a 3) (a 1) 0 (160 * tc) n)) 2 (upd (a 2) tc (nI n))) b) _
    refine P0.b GX11_text 4 (ob := []) (cf' := (if (1 : Int32) = 0 then 92 else 84, [some (.ref 0), some (.int v1)], [], hC (upd g 6 0) (upd (upd (upd (upd (upd (upd (upd (upd z 18 fr) 19 n1) 20 e) 21 tk) 22 p) 24 op) 25 1) 26 (nI q)) w1 (up2 (up2 a 1 (va_cpy (a 3) (a 1) 0 (160 * tc) n)) 2 (upd (a 2) tc (nI n))) b)) rfl trivial ?_
    rw [if_neg (show ¬ ((1 : Int32) = 0) from by decide)]
    refine P0.b GX11_text 4 (ob := []) (cf' := (91, [some (.ref 0), some (.int v1)], [.int ((-100) - (nI q))], hC (upd g 6 0) (upd (upd (upd (upd (upd (upd (upd (upd z 18 fr) 19 n1) 20 e) 21 tk) 22 p) 24 op) 25 1) 26 (nI q)) w1 (up2 (up2 a 1 (va_cpy (a 3) (a 1) 0 (160 * tc) n)) 2 (upd (a 2) tc (nI n))) b)) rfl trivial ?_
    exact P0.ri (by decide +kernel) rfl rfl ⟨_, _, rfl, rfl⟩
set_option maxHeartbeats 1000000 in
theorem text_ok {g z : Nat → Int32} {w : Int64} {a b : Nat → Nat → Int32} {tc n  : Nat} {x1 y1 u1 : Int32} (htc : g 3 = nI tc) (htc6 : tc < 6) (hn : g 6 = nI n) (hn6 : n ≤ 160) (hT0 : TxOK (up2 (up2 a 1 (va_cpy (a 3) (a 1) 0 (160 * tc) n)) 2 (upd (a 2) tc (nI n))) (160 * tc) n) (hR : txR a tc n z = .inr (x1, y1, u1)) : P0 42 0 0 mX11_text (0, ent 2 [.ref 0], [], hC g z w a b) (fun r h' => ∃ z' w', r = some (.int (nI tc)) ∧ h' = hC (upd (upd g 6 0) 3 (nI (tc + 1))) z' w' (up2 (up2 a 1 (va_cpy (a 3) (a 1) 0 (160 * tc) n)) 2 (upd (a 2) tc (nI n))) b) := by
  refine P0.b GX11_text 4 (ob := []) (cf' := (if g 3 = 6 then 9 else 12, [some (.ref 0), none], [], hC g z w a b)) rfl trivial ?_
  rw [show g 3 = nI tc from htc]
  rw [if_neg (show ¬ (nI tc = 6) from by rw [show (6 : Int32) = nI 6 from rfl, nI_eq (by omega) (by decide)]; omega)]
  refine P0.b GX11_text 2 (ob := []) (cf' := (14, [some (.ref 0), some (.int 0)], [], hC g z w a b)) rfl trivial ?_
  rw [show hC g z w a b = hC g z w (up2 a 1 (a 1)) b from by rw [up2_self]]
  refine P0.loopI (N := n) (fun k v => v = va_cpy (a 3) (a 1) 0 (160 * tc) k) (fun x107 v107 => (14, [some (.ref 0), some (.int x107)], [], hC g z w (up2 a 1 v107) b)) (fun i107 v107 hi107 hI107 hk107 => ?_) (fun v107 hI107 => ?_) 0 (a 1) nI_0.symm cpy_0
  · show P0 _ _ _ _ (14, [some (.ref 0), some (.int (nI i107))], [], hC g z w (up2 a 1 v107) b) _
    refine P0.b GX11_text 4 (ob := []) (cf' := (if g 6 ≤ nI i107 then 49 else 22, [some (.ref 0), some (.int (nI i107))], [], hC g z w (up2 a 1 v107) b)) rfl trivial ?_
    rw [show g 6 = nI n from hn]
    rw [if_neg (show ¬ (nI n ≤ nI i107) from nI_ge hi107 (by omega))]
    refine P0.b GX11_text 8 (ob := []) (cf' := (36, [some (.ref 0), some (.int (nI i107))], [.int ((160 * (g 3)) + (nI i107)), .ref 1], hC g z w (up2 a 1 v107) b)) rfl trivial ?_
    rw [show g 3 = nI tc from htc]
    rw [show (160 * (nI tc) : Int32) = nI (160 * tc) from pk_mul _ _]
    rw [show (nI (160 * tc)) + (nI i107) = nI ((160 * tc) + i107) from nI_add _ _]
    refine P0.b GX11_text 3 (ob := []) (cf' := (41, [some (.ref 0), some (.int (nI i107))], [.int (nI i107), .ref 3, .int (nI ((160 * tc) + i107)), .ref 1], hC g z w (up2 a 1 v107) b)) rfl trivial ?_
    refine P0.b GX11_text 1 (ob := [vp_in (nI i107) 160]) (cf' := (42, [some (.ref 0), some (.int (nI i107))], [.int ((a 3) (nI i107).toNatClampNeg), .int (nI ((160 * tc) + i107)), .ref 1], hC g z w (up2 a 1 v107) b)) rfl ⟨(nI_vp (by omega) (by decide)), trivial⟩ ?_
    rw [show (nI i107).toNatClampNeg = i107 from nI_clamp (by omega)]
    refine P0.b GX11_text 1 (ob := [vp_in (nI ((160 * tc) + i107)) 960]) (cf' := (43, [some (.ref 0), some (.int (nI i107))], [], hC g z w (up2 a 1 (upd v107 (nI ((160 * tc) + i107)).toNatClampNeg ((a 3) i107))) b)) rfl ⟨(nI_vp (by omega) (by decide)), trivial⟩ ?_
    rw [show (nI ((160 * tc) + i107)).toNatClampNeg = ((160 * tc) + i107) from nI_clamp (by omega)]
    refine P0.b GX11_text 2 (ob := []) (cf' := (14, [some (.ref 0), some (.int ((nI i107) + 1))], [], hC g z w (up2 a 1 (upd v107 ((160 * tc) + i107) ((a 3) i107))) b)) rfl trivial ?_
    rw [show (nI i107) + 1 = nI (i107 + 1) from nI_add _ _]
    exact hk107 _ (upd v107 ((160 * tc) + i107) ((a 3) i107)) rfl (by rw [hI107]; exact cpy_s)
  · show P0 _ _ _ _ (14, [some (.ref 0), some (.int (nI n))], [], hC g z w (up2 a 1 v107) b) _
    refine P0.b GX11_text 4 (ob := []) (cf' := (if g 6 ≤ nI n then 49 else 22, [some (.ref 0), some (.int (nI n))], [], hC g z w (up2 a 1 v107) b)) rfl trivial ?_
    rw [show g 6 = nI n from hn]
    rw [if_pos (show nI n ≤ nI n from Int32.le_refl _)]
    rw [hI107]
    refine P0.b GX11_text 6 (ob := []) (cf' := (61, [some (.ref 0), some (.int (nI n))], [.int (g 6), .int (g 3), .ref 2], hC g z w (up2 a 1 (va_cpy (a 3) (a 1) 0 (160 * tc) n)) b)) rfl trivial ?_
    rw [show g 6 = nI n from hn]
    rw [show g 3 = nI tc from htc]
    refine P0.b GX11_text 1 (ob := [vp_in (nI tc) 6]) (cf' := (62, [some (.ref 0), some (.int (nI n))], [], hC g z w (up2 (up2 a 1 (va_cpy (a 3) (a 1) 0 (160 * tc) n)) 2 (upd (a 2) (nI tc).toNatClampNeg (nI n))) b)) rfl ⟨(nI_vp (by omega) (by decide)), trivial⟩ ?_
    rw [show (nI tc).toNatClampNeg = tc from nI_clamp (by omega)]
    refine P0.b GX11_text 3 (ob := []) (cf' := (67, [some (.ref 0), some (.int (nI n))], [], hC (upd g 6 0) z w (up2 (up2 a 1 (va_cpy (a 3) (a 1) 0 (160 * tc) n)) 2 (upd (a 2) tc (nI n))) b)) rfl trivial ?_
    refine P0.b GX11_text 4 (ob := []) (cf' := (73, [some (.ref 0), some (.int (nI n))], [.int 0, .int (g 3), .ref 0], hC (upd g 6 0) z w (up2 (up2 a 1 (va_cpy (a 3) (a 1) 0 (160 * tc) n)) 2 (upd (a 2) tc (nI n))) b)) rfl trivial ?_
    rw [show g 3 = nI tc from htc]
    refine P0.cs (as := [.ref 0, .int (nI tc), .int 0]) (rest := []) GX11_read kX11_text_73 rfl ⟨_, _, rfl, rfl, .inl ⟨_, _, _, _, rfl, rfl⟩⟩ (Nat.le_of_ble_eq_true rfl) (Nat.le_of_ble_eq_true rfl) (P0.mono (e_X11_read (g := mx (upd g 6 0) z) (a := my (up2 (up2 a 1 (va_cpy (a 3) (a 1) 0 (160 * tc) n)) 2 (upd (a 2) tc (nI n))) b) htc6 rfl (show up2 (up2 a 1 (va_cpy (a 3) (a 1) 0 (160 * tc) n)) 2 (upd (a 2) tc (nI n)) 2 tc = nI n from by rw [up2_s, pk_us]) hT0 0 (z 18) (z 19) (z 20) (z 21) (z 22) w (z 24) (z 25) (z 26)) (Nat.le_of_ble_eq_true rfl) (Nat.zero_le _) (Nat.zero_le _) (fun _ _ q => q)) (Nat.le_of_ble_eq_true rfl) (fun _ _ q => q.len) ?_
    rintro r108 h108 hq108
    have hR2 : rText (sg (Bt (my (up2 (up2 a 1 (va_cpy (a 3) (a 1) 0 (160 * tc) n)) 2 (upd (a 2) tc (nI n))) b 1) (160 * tc) n)) (nx (Bt (my (up2 (up2 a 1 (va_cpy (a 3) (a 1) 0 (160 * tc) n)) 2 (upd (a 2) tc (nI n))) b 1) (160 * tc) n)) (vA (mx (upd g 6 0) z)) (skp (Bt (my (up2 (up2 a 1 (va_cpy (a 3) (a 1) 0 (160 * tc) n)) 2 (upd (a 2) tc (nI n))) b 1) (160 * tc) n) 0) = .inr (x1, y1, u1) := hR
    rw [hR2] at hq108
    obtain ⟨fr, n1, e, tk, p, w1, op, fl, rfl, rfl⟩ := hq108
    rw [hT_hC]
    show P0 _ _ _ _ (76, [some (.ref 0), some (.int (nI n))], [.int (if (0 : Int32) = 0 then x1 else if (0 : Int32) = 1 then y1 else u1)], hC (upd g 6 0) (upd (upd (upd (upd (upd (upd (upd (upd z 18 fr) 19 n1) 20 e) 21 tk) 22 p) 24 op) 25 0) 26 fl) w1 (up2 (up2 a 1 (va_cpy (a 3) (a 1) 0 (160 * tc) n)) 2 (upd (a 2) tc (nI n))) b) _
    refine P0.b GX11_text 4 (ob := []) (cf' := (if (0 : Int32) = 0 then 92 else 84, [some (.ref 0), some (.int (if (0 : Int32) = 0 then x1 else if (0 : Int32) = 1 then y1 else u1))], [], hC (upd g 6 0) (upd (upd (upd (upd (upd (upd (upd (upd z 18 fr) 19 n1) 20 e) 21 tk) 22 p) 24 op) 25 0) 26 fl) w1 (up2 (up2 a 1 (va_cpy (a 3) (a 1) 0 (160 * tc) n)) 2 (upd (a 2) tc (nI n))) b)) rfl trivial ?_
    rw [if_pos (show ((0 : Int32) = 0) from by decide)]
    refine P0.b GX11_text 6 (ob := []) (cf' := (102, [some (.ref 0), some (.int (if (0 : Int32) = 0 then x1 else if (0 : Int32) = 1 then y1 else u1))], [], hC (upd (upd g 6 0) 3 ((g 3) + 1)) (upd (upd (upd (upd (upd (upd (upd (upd z 18 fr) 19 n1) 20 e) 21 tk) 22 p) 24 op) 25 0) 26 fl) w1 (up2 (up2 a 1 (va_cpy (a 3) (a 1) 0 (160 * tc) n)) 2 (upd (a 2) tc (nI n))) b)) rfl trivial ?_
    rw [show g 3 = nI tc from htc]
    rw [show (nI tc) + 1 = nI (tc + 1) from nI_add _ _]
    refine P0.b GX11_text 4 (ob := []) (cf' := (108, [some (.ref 0), some (.int (if (0 : Int32) = 0 then x1 else if (0 : Int32) = 1 then y1 else u1))], [.int ((nI (tc + 1)) - 1)], hC (upd (upd g 6 0) 3 (nI (tc + 1))) (upd (upd (upd (upd (upd (upd (upd (upd z 18 fr) 19 n1) 20 e) 21 tk) 22 p) 24 op) 25 0) 26 fl) w1 (up2 (up2 a 1 (va_cpy (a 3) (a 1) 0 (160 * tc) n)) 2 (upd (a 2) tc (nI n))) b)) rfl trivial ?_
    exact P0.ri (by decide +kernel) rfl rfl ⟨_, _, (by rw [nI_pred]), rfl⟩
