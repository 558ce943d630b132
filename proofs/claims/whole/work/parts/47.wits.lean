/-! ===== laid by program (wip/tools) ===== -/
set_option maxHeartbeats 1000000 in
theorem wits_no {g z : Nat → Int32} {w : Int64} {a b : Nat → Nat → Int32} (s so at1 n : Int32) (h : ¬ ((0 ≤ s ∧ s ≤ 3) ∧ (0 ≤ so ∧ so ≤ 2) ∧ (0 ≤ n ∧ n ≤ 6))) : P0 2 0 0 mX11_witnesses (0, ent 8 [.ref 0, .int s, .int so, .int at1, .int n], [], hC g z w a b) (fun r h' => r = some (.int (-2)) ∧ h' = hC g z w a b) := by
  refine P0.b GX11_witnesses 1 (ob := []) (cf' := (1, [some (.ref 0), some (.int s), some (.int so), some (.int at1), some (.int n), none, none, none], [.int s], hC g z w a b)) rfl trivial ?_
  refine P0.cr (io := []) (as := [.int s]) (rest := []) (hc := []) (hc1 := []) (r1 := some (.int (if 0 ≤ s ∧ s ≤ 3 then 1 else 0))) (st' := [.int (if 0 ≤ s ∧ s ≤ 3 then 1 else 0)]) (h' := hC g z w a b) (d0 := 1) GX11_isSheet kX11_witnesses_1 rfl rfl (Nat.le_of_ble_eq_true rfl) (Nat.le_of_ble_eq_true rfl) rfl trivial (e_X11_isSheet s) (Nat.le_of_ble_eq_true rfl) rfl (Nat.le_of_ble_eq_true rfl) (Nat.le_of_ble_eq_true rfl) rfl rfl ?_
  refine P0.b GX11_witnesses 1 (ob := []) (cf' := (if (if 0 ≤ s ∧ s ≤ 3 then 1 else 0) = 0 then 32 else 7, [some (.ref 0), some (.int s), some (.int so), some (.int at1), some (.int n), none, none, none], [], hC g z w a b)) rfl trivial ?_
  refine P0.ifB (fun h1 => ?_) (fun h1 => ?_)
  · refine P0.b GX11_witnesses 1 (ob := []) (cf' := (34, [some (.ref 0), some (.int s), some (.int so), some (.int at1), some (.int n), none, none, none], [.int (-2)], hC g z w a b)) rfl trivial ?_
    exact P0.ri (by decide +kernel) rfl rfl ⟨rfl, rfl⟩
  · refine P0.b GX11_witnesses 4 (ob := []) (cf' := (13, [some (.ref 0), some (.int s), some (.int so), some (.int at1), some (.int n), none, none, none], [.long 2, .long 0, .long so.toInt64], hC g z w a b)) rfl trivial ?_
    refine P0.cr (io := []) (as := [.long so.toInt64, .long ((0 : Int32).toInt64), .long ((2 : Int32).toInt64)]) (rest := []) (hc := []) (hc1 := []) (r1 := some (.int (if 0 ≤ so ∧ so ≤ 2 then 1 else 0))) (st' := [.int (if 0 ≤ so ∧ so ≤ 2 then 1 else 0)]) (h' := hC g z w a b) (d0 := 0) GX11_in kX11_witnesses_13 rfl rfl (Nat.le_of_ble_eq_true rfl) (Nat.le_of_ble_eq_true rfl) rfl trivial (e_in32 so 0 2) (Nat.le_of_ble_eq_true rfl) rfl (Nat.le_of_ble_eq_true rfl) (Nat.le_of_ble_eq_true rfl) rfl rfl ?_
    refine P0.b GX11_witnesses 1 (ob := []) (cf' := (if (if 0 ≤ so ∧ so ≤ 2 then 1 else 0) = 0 then 32 else 19, [some (.ref 0), some (.int s), some (.int so), some (.int at1), some (.int n), none, none, none], [], hC g z w a b)) rfl trivial ?_
    refine P0.ifB (fun h2 => ?_) (fun h2 => ?_)
    · refine P0.b GX11_witnesses 1 (ob := []) (cf' := (34, [some (.ref 0), some (.int s), some (.int so), some (.int at1), some (.int n), none, none, none], [.int (-2)], hC g z w a b)) rfl trivial ?_
      exact P0.ri (by decide +kernel) rfl rfl ⟨rfl, rfl⟩
    · refine P0.b GX11_witnesses 4 (ob := []) (cf' := (26, [some (.ref 0), some (.int s), some (.int so), some (.int at1), some (.int n), none, none, none], [.long 6, .long 0, .long n.toInt64], hC g z w a b)) rfl trivial ?_
      refine P0.cr (io := []) (as := [.long n.toInt64, .long ((0 : Int32).toInt64), .long ((6 : Int32).toInt64)]) (rest := []) (hc := []) (hc1 := []) (r1 := some (.int (if 0 ≤ n ∧ n ≤ 6 then 1 else 0))) (st' := [.int (if 0 ≤ n ∧ n ≤ 6 then 1 else 0)]) (h' := hC g z w a b) (d0 := 0) GX11_in kX11_witnesses_26 rfl rfl (Nat.le_of_ble_eq_true rfl) (Nat.le_of_ble_eq_true rfl) rfl trivial (e_in32 n 0 6) (Nat.le_of_ble_eq_true rfl) rfl (Nat.le_of_ble_eq_true rfl) (Nat.le_of_ble_eq_true rfl) rfl rfl ?_
      refine P0.b GX11_witnesses 1 (ob := []) (cf' := (if (if 0 ≤ n ∧ n ≤ 6 then 1 else 0) = 0 then 32 else 35, [some (.ref 0), some (.int s), some (.int so), some (.int at1), some (.int n), none, none, none], [], hC g z w a b)) rfl trivial ?_
      rw [if_neg (show ¬ (0 ≤ n ∧ n ≤ 6) from fun q => h ⟨h1, h2, q⟩), if_pos rfl]
      refine P0.b GX11_witnesses 1 (ob := []) (cf' := (34, [some (.ref 0), some (.int s), some (.int so), some (.int at1), some (.int n), none, none, none], [.int (-2)], hC g z w a b)) rfl trivial ?_
      exact P0.ri (by decide +kernel) rfl rfl ⟨rfl, rfl⟩
set_option maxHeartbeats 1000000 in
theorem wits_unlike {g z : Nat → Int32} {w : Int64} {a b : Nat → Nat → Int32} {i : Nat} (hi : i < 4) (so at1 n : Int32) (h : (0 ≤ so ∧ so ≤ 2) ∧ (0 ≤ n ∧ n ≤ 6)) (ht : ¬ a 14 i = 0) (hs : ¬ a 15 i = so) : P0 2 0 0 mX11_witnesses (0, ent 8 [.ref 0, .int (nI i), .int so, .int at1, .int n], [], hC g z w a b) (fun r h' => r = some (.int (-13)) ∧ h' = hC g z w a b) := by
  refine P0.b GX11_witnesses 1 (ob := []) (cf' := (1, [some (.ref 0), some (.int (nI i)), some (.int so), some (.int at1), some (.int n), none, none, none], [.int (nI i)], hC g z w a b)) rfl trivial ?_
  refine P0.cr (io := []) (as := [.int (nI i)]) (rest := []) (hc := []) (hc1 := []) (r1 := some (.int (if 0 ≤ nI i ∧ nI i ≤ 3 then 1 else 0))) (st' := [.int (if 0 ≤ nI i ∧ nI i ≤ 3 then 1 else 0)]) (h' := hC g z w a b) (d0 := 1) GX11_isSheet kX11_witnesses_1 rfl rfl (Nat.le_of_ble_eq_true rfl) (Nat.le_of_ble_eq_true rfl) rfl trivial (e_X11_isSheet (nI i)) (Nat.le_of_ble_eq_true rfl) rfl (Nat.le_of_ble_eq_true rfl) (Nat.le_of_ble_eq_true rfl) rfl rfl ?_
  refine P0.b GX11_witnesses 1 (ob := []) (cf' := (if (if 0 ≤ nI i ∧ nI i ≤ 3 then 1 else 0) = 0 then 32 else 7, [some (.ref 0), some (.int (nI i)), some (.int so), some (.int at1), some (.int n), none, none, none], [], hC g z w a b)) rfl trivial ?_
  rw [if_pos (show 0 ≤ nI i ∧ nI i ≤ 3 from sh_ok hi), if_neg (by decide)]
  refine P0.b GX11_witnesses 4 (ob := []) (cf' := (13, [some (.ref 0), some (.int (nI i)), some (.int so), some (.int at1), some (.int n), none, none, none], [.long 2, .long 0, .long so.toInt64], hC g z w a b)) rfl trivial ?_
  refine P0.cr (io := []) (as := [.long so.toInt64, .long ((0 : Int32).toInt64), .long ((2 : Int32).toInt64)]) (rest := []) (hc := []) (hc1 := []) (r1 := some (.int (if 0 ≤ so ∧ so ≤ 2 then 1 else 0))) (st' := [.int (if 0 ≤ so ∧ so ≤ 2 then 1 else 0)]) (h' := hC g z w a b) (d0 := 0) GX11_in kX11_witnesses_13 rfl rfl (Nat.le_of_ble_eq_true rfl) (Nat.le_of_ble_eq_true rfl) rfl trivial (e_in32 so 0 2) (Nat.le_of_ble_eq_true rfl) rfl (Nat.le_of_ble_eq_true rfl) (Nat.le_of_ble_eq_true rfl) rfl rfl ?_
  refine P0.b GX11_witnesses 1 (ob := []) (cf' := (if (if 0 ≤ so ∧ so ≤ 2 then 1 else 0) = 0 then 32 else 19, [some (.ref 0), some (.int (nI i)), some (.int so), some (.int at1), some (.int n), none, none, none], [], hC g z w a b)) rfl trivial ?_
  rw [if_pos (show 0 ≤ so ∧ so ≤ 2 from h.1), if_neg (by decide)]
  refine P0.b GX11_witnesses 4 (ob := []) (cf' := (26, [some (.ref 0), some (.int (nI i)), some (.int so), some (.int at1), some (.int n), none, none, none], [.long 6, .long 0, .long n.toInt64], hC g z w a b)) rfl trivial ?_
  refine P0.cr (io := []) (as := [.long n.toInt64, .long ((0 : Int32).toInt64), .long ((6 : Int32).toInt64)]) (rest := []) (hc := []) (hc1 := []) (r1 := some (.int (if 0 ≤ n ∧ n ≤ 6 then 1 else 0))) (st' := [.int (if 0 ≤ n ∧ n ≤ 6 then 1 else 0)]) (h' := hC g z w a b) (d0 := 0) GX11_in kX11_witnesses_26 rfl rfl (Nat.le_of_ble_eq_true rfl) (Nat.le_of_ble_eq_true rfl) rfl trivial (e_in32 n 0 6) (Nat.le_of_ble_eq_true rfl) rfl (Nat.le_of_ble_eq_true rfl) (Nat.le_of_ble_eq_true rfl) rfl rfl ?_
  refine P0.b GX11_witnesses 1 (ob := []) (cf' := (if (if 0 ≤ n ∧ n ≤ 6 then 1 else 0) = 0 then 32 else 35, [some (.ref 0), some (.int (nI i)), some (.int so), some (.int at1), some (.int n), none, none, none], [], hC g z w a b)) rfl trivial ?_
  rw [if_pos (show 0 ≤ n ∧ n ≤ 6 from h.2), if_neg (by decide)]
  refine P0.b GX11_witnesses 3 (ob := []) (cf' := (40, [some (.ref 0), some (.int (nI i)), some (.int so), some (.int at1), some (.int n), none, none, none], [.int (nI i), .ref 14], hC g z w a b)) rfl trivial ?_
  refine P0.b GX11_witnesses 2 (ob := [vp_in (nI i) 4]) (cf' := (if (a 14) (nI i).toNatClampNeg = 0 then 57 else 44, [some (.ref 0), some (.int (nI i)), some (.int so), some (.int at1), some (.int n), none, none, none], [], hC g z w a b)) rfl ⟨(nI_vp (by omega) (by decide)), trivial⟩ ?_
  rw [show (nI i).toNatClampNeg = i from nI_clamp (by omega)]
  rw [if_neg (show ¬ ((a 14) i = 0) from ht)]
  refine P0.b GX11_witnesses 3 (ob := []) (cf' := (49, [some (.ref 0), some (.int (nI i)), some (.int so), some (.int at1), some (.int n), none, none, none], [.int (nI i), .ref 15], hC g z w a b)) rfl trivial ?_
  refine P0.b GX11_witnesses 3 (ob := [vp_in (nI i) 4]) (cf' := (if (a 15) (nI i).toNatClampNeg = so then 57 else 54, [some (.ref 0), some (.int (nI i)), some (.int so), some (.int at1), some (.int n), none, none, none], [], hC g z w a b)) rfl ⟨(nI_vp (by omega) (by decide)), trivial⟩ ?_
  rw [show (nI i).toNatClampNeg = i from nI_clamp (by omega)]
  rw [if_neg (show ¬ ((a 15) i = so) from hs)]
  refine P0.b GX11_witnesses 1 (ob := []) (cf' := (56, [some (.ref 0), some (.int (nI i)), some (.int so), some (.int at1), some (.int n), none, none, none], [.int (-13)], hC g z w a b)) rfl trivial ?_
  exact P0.ri (by decide +kernel) rfl rfl ⟨rfl, rfl⟩
set_option maxHeartbeats 1000000 in
theorem wits_none {g z : Nat → Int32} {w : Int64} {a b : Nat → Nat → Int32} {i : Nat} (hi : i < 4) (so at1 n : Int32) (h : (0 ≤ so ∧ so ≤ 2) ∧ (0 ≤ n ∧ n ≤ 6)) (ht : a 14 i = 0) : P0 2 0 0 mX11_witnesses (0, ent 8 [.ref 0, .int (nI i), .int so, .int at1, .int n], [], hC g z w a b) (fun r h' => r = some (.int (-11)) ∧ h' = hC g z w a b) := by
  refine P0.b GX11_witnesses 1 (ob := []) (cf' := (1, [some (.ref 0), some (.int (nI i)), some (.int so), some (.int at1), some (.int n), none, none, none], [.int (nI i)], hC g z w a b)) rfl trivial ?_
  refine P0.cr (io := []) (as := [.int (nI i)]) (rest := []) (hc := []) (hc1 := []) (r1 := some (.int (if 0 ≤ nI i ∧ nI i ≤ 3 then 1 else 0))) (st' := [.int (if 0 ≤ nI i ∧ nI i ≤ 3 then 1 else 0)]) (h' := hC g z w a b) (d0 := 1) GX11_isSheet kX11_witnesses_1 rfl rfl (Nat.le_of_ble_eq_true rfl) (Nat.le_of_ble_eq_true rfl) rfl trivial (e_X11_isSheet (nI i)) (Nat.le_of_ble_eq_true rfl) rfl (Nat.le_of_ble_eq_true rfl) (Nat.le_of_ble_eq_true rfl) rfl rfl ?_
  refine P0.b GX11_witnesses 1 (ob := []) (cf' := (if (if 0 ≤ nI i ∧ nI i ≤ 3 then 1 else 0) = 0 then 32 else 7, [some (.ref 0), some (.int (nI i)), some (.int so), some (.int at1), some (.int n), none, none, none], [], hC g z w a b)) rfl trivial ?_
  rw [if_pos (show 0 ≤ nI i ∧ nI i ≤ 3 from sh_ok hi), if_neg (by decide)]
  refine P0.b GX11_witnesses 4 (ob := []) (cf' := (13, [some (.ref 0), some (.int (nI i)), some (.int so), some (.int at1), some (.int n), none, none, none], [.long 2, .long 0, .long so.toInt64], hC g z w a b)) rfl trivial ?_
  refine P0.cr (io := []) (as := [.long so.toInt64, .long ((0 : Int32).toInt64), .long ((2 : Int32).toInt64)]) (rest := []) (hc := []) (hc1 := []) (r1 := some (.int (if 0 ≤ so ∧ so ≤ 2 then 1 else 0))) (st' := [.int (if 0 ≤ so ∧ so ≤ 2 then 1 else 0)]) (h' := hC g z w a b) (d0 := 0) GX11_in kX11_witnesses_13 rfl rfl (Nat.le_of_ble_eq_true rfl) (Nat.le_of_ble_eq_true rfl) rfl trivial (e_in32 so 0 2) (Nat.le_of_ble_eq_true rfl) rfl (Nat.le_of_ble_eq_true rfl) (Nat.le_of_ble_eq_true rfl) rfl rfl ?_
  refine P0.b GX11_witnesses 1 (ob := []) (cf' := (if (if 0 ≤ so ∧ so ≤ 2 then 1 else 0) = 0 then 32 else 19, [some (.ref 0), some (.int (nI i)), some (.int so), some (.int at1), some (.int n), none, none, none], [], hC g z w a b)) rfl trivial ?_
  rw [if_pos (show 0 ≤ so ∧ so ≤ 2 from h.1), if_neg (by decide)]
  refine P0.b GX11_witnesses 4 (ob := []) (cf' := (26, [some (.ref 0), some (.int (nI i)), some (.int so), some (.int at1), some (.int n), none, none, none], [.long 6, .long 0, .long n.toInt64], hC g z w a b)) rfl trivial ?_
  refine P0.cr (io := []) (as := [.long n.toInt64, .long ((0 : Int32).toInt64), .long ((6 : Int32).toInt64)]) (rest := []) (hc := []) (hc1 := []) (r1 := some (.int (if 0 ≤ n ∧ n ≤ 6 then 1 else 0))) (st' := [.int (if 0 ≤ n ∧ n ≤ 6 then 1 else 0)]) (h' := hC g z w a b) (d0 := 0) GX11_in kX11_witnesses_26 rfl rfl (Nat.le_of_ble_eq_true rfl) (Nat.le_of_ble_eq_true rfl) rfl trivial (e_in32 n 0 6) (Nat.le_of_ble_eq_true rfl) rfl (Nat.le_of_ble_eq_true rfl) (Nat.le_of_ble_eq_true rfl) rfl rfl ?_
  refine P0.b GX11_witnesses 1 (ob := []) (cf' := (if (if 0 ≤ n ∧ n ≤ 6 then 1 else 0) = 0 then 32 else 35, [some (.ref 0), some (.int (nI i)), some (.int so), some (.int at1), some (.int n), none, none, none], [], hC g z w a b)) rfl trivial ?_
  rw [if_pos (show 0 ≤ n ∧ n ≤ 6 from h.2), if_neg (by decide)]
  refine P0.b GX11_witnesses 3 (ob := []) (cf' := (40, [some (.ref 0), some (.int (nI i)), some (.int so), some (.int at1), some (.int n), none, none, none], [.int (nI i), .ref 14], hC g z w a b)) rfl trivial ?_
  refine P0.b GX11_witnesses 2 (ob := [vp_in (nI i) 4]) (cf' := (if (a 14) (nI i).toNatClampNeg = 0 then 57 else 44, [some (.ref 0), some (.int (nI i)), some (.int so), some (.int at1), some (.int n), none, none, none], [], hC g z w a b)) rfl ⟨(nI_vp (by omega) (by decide)), trivial⟩ ?_
  rw [show (nI i).toNatClampNeg = i from nI_clamp (by omega)]
  rw [if_pos (show (a 14) i = 0 from ht)]
  refine P0.b GX11_witnesses 3 (ob := []) (cf' := (62, [some (.ref 0), some (.int (nI i)), some (.int so), some (.int at1), some (.int n), none, none, none], [.int (nI i), .ref 14], hC g z w a b)) rfl trivial ?_
  refine P0.b GX11_witnesses 2 (ob := [vp_in (nI i) 4]) (cf' := (if (a 14) (nI i).toNatClampNeg = 0 then 66 else 69, [some (.ref 0), some (.int (nI i)), some (.int so), some (.int at1), some (.int n), none, none, none], [], hC g z w a b)) rfl ⟨(nI_vp (by omega) (by decide)), trivial⟩ ?_
  rw [show (nI i).toNatClampNeg = i from nI_clamp (by omega)]
  rw [if_pos (show (a 14) i = 0 from ht)]
  refine P0.b GX11_witnesses 1 (ob := []) (cf' := (68, [some (.ref 0), some (.int (nI i)), some (.int so), some (.int at1), some (.int n), none, none, none], [.int (-11)], hC g z w a b)) rfl trivial ?_
  exact P0.ri (by decide +kernel) rfl rfl ⟨rfl, rfl⟩
/-- one witness more, if it is one and there is room; how many there are, the core -/
def wOK3 (kd nu sw : Int32) : Prop := (0 ≤ kd ∧ kd ≤ 5) ∧ (0 ≤ nu ∧ nu ≤ 9) ∧ (0 ≤ sw ∧ sw ≤ 63)
abbrev WS : Type := Nat × (Nat → Int32) × (Nat → Nat → Int32)
def wAdd (p : WS) (kd nu sw : Int32) : WS := (p.1 + 1, upd p.2.1 11 (nI p.1 + 1), up2 (up2 p.2.2 5 (upd (p.2.2 5) p.1 kd)) 6 (upd (upd (upd (p.2.2 6) (3 * p.1) nu) (3 * p.1 + 1) sw) (3 * p.1 + 2) 0))
/-- what witness() does to a core p: a core q, an answer -/
def wRel (p : WS) (kd nu sw : Int32) (q : WS) (r : Int32) : Prop := (¬ wOK3 kd nu sw ∧ q = p ∧ r = -2) ∨ (wOK3 kd nu sw ∧ p.1 = 6 ∧ q = p ∧ r = -4) ∨ (wOK3 kd nu sw ∧ p.1 < 6 ∧ q = wAdd p kd nu sw ∧ r = nI p.1)
theorem e_witR {z : Nat → Int32} {w : Int64} {b : Nat → Nat → Int32} (p : WS) (hm : p.2.1 11 = nI p.1) (hm6 : p.1 ≤ 6) (kd nu sw : Int32) : P0 1 0 0 mX11_witness (0, ent 4 [.ref 0, .int kd, .int nu, .int sw], [], hC p.2.1 z w p.2.2 b) (fun r h' => ∃ q v, wRel p kd nu sw q v ∧ r = some (.int v) ∧ h' = hC q.2.1 z w q.2.2 b) := by
  by_cases h : wOK3 kd nu sw
  · by_cases h6 : p.1 = 6
    · exact P0.mono (witness_full kd nu sw h (by rw [hm, h6]; rfl)) (Nat.le_refl _) (Nat.le_refl _) (Nat.le_refl _) (fun r h' q => ⟨p, _, Or.inr (Or.inl ⟨h, h6, rfl, rfl⟩), q.1, q.2⟩)
    · exact P0.mono (witness_yes kd nu sw h hm (by omega)) (Nat.le_refl _) (Nat.le_refl _) (Nat.le_refl _) (fun r h' q => ⟨wAdd p kd nu sw, _, Or.inr (Or.inr ⟨h, by omega, rfl, rfl⟩), q.1, q.2⟩)
  · exact P0.mono (witness_no kd nu sw h) (Nat.le_refl _) (Nat.le_refl _) (Nat.le_refl _) (fun r h' q => ⟨p, _, Or.inl ⟨h, rfl, rfl⟩, q.1, q.2⟩)
/-- witnesses off the items f from place 40 i + p on: after k of them, how many came -/
def wRun (f : Nat → Int32) (d : Nat) (p0 : WS) : Nat → WS → Nat → Prop
  | 0, q, c => q = p0 ∧ c = 0
  | k + 1, q, c => ∃ q0 c0 v, wRun f d p0 k q0 c0 ∧ wRel q0 (f (d + 3 * k)) (f (d + 3 * k + 1)) (f (d + 3 * k + 2)) q v ∧ c = c0 + (if v < 0 then 0 else 1)
theorem wRel.inv {p q : WS} {kd nu sw r : Int32} (h : wRel p kd nu sw q r) (hm : p.2.1 11 = nI p.1) (hm6 : p.1 ≤ 6) : q.2.1 11 = nI q.1 ∧ q.1 ≤ 6 ∧ (∀ k, 6 < k → q.2.2 k = p.2.2 k) := by
  rcases h with ⟨_, rfl, _⟩ | ⟨_, _, rfl, _⟩ | ⟨_, h6, rfl, _⟩
  · exact ⟨hm, hm6, fun _ _ => rfl⟩
  · exact ⟨hm, hm6, fun _ _ => rfl⟩
  · refine ⟨by show upd p.2.1 11 (nI p.1 + 1) 11 = nI (p.1 + 1); rw [pk_us, nI_1], by show p.1 + 1 ≤ 6; omega, fun k hk => ?_⟩
    show up2 (up2 p.2.2 5 _) 6 _ k = _
    rw [up2_n (by omega), up2_n (by omega)]
theorem wRun.inv {f : Nat → Int32} {d : Nat} {p0 : WS} (hm : p0.2.1 11 = nI p0.1) (hm6 : p0.1 ≤ 6) : ∀ {k : Nat} {q : WS} {c : Nat}, wRun f d p0 k q c → q.2.1 11 = nI q.1 ∧ q.1 ≤ 6 ∧ (∀ k, 6 < k → q.2.2 k = p0.2.2 k) ∧ c ≤ k
  | 0, q, c, h => by obtain ⟨rfl, rfl⟩ := h; exact ⟨hm, hm6, fun _ _ => rfl, Nat.le_refl _⟩
  | k + 1, q, c, h => by
    obtain ⟨q0, c0, v, h1, h2, rfl⟩ := h
    obtain ⟨g1, g2, g3, g4⟩ := wRun.inv hm hm6 h1
    obtain ⟨e1, e2, e3⟩ := h2.inv g1 g2
    exact ⟨e1, e2, fun k hk => (e3 k hk).trans (g3 k hk), by split <;> omega⟩
theorem wit_off {sz at1 k : Nat} (h : sz ≤ 40) (hk : k ≤ 6) (ha : at1 ≤ 200) : (nI at1 ≤ nI sz - 3 * nI k - 3) ↔ at1 + 3 * k + 3 ≤ sz := by
  have e : nI sz - 3 * nI k - 3 = nI sz - nI (3 * k + 3) := by
    rw [show (3 : Int32) * nI k = nI (3 * k) from pk_mul 3 k, ← nI_add (3 * k) 3, Int32.sub_eq_add_neg (nI sz), Int32.sub_eq_add_neg (nI sz), Int32.neg_add, Int32.sub_eq_add_neg, Int32.sub_eq_add_neg, Int32.add_assoc]
    rfl
  rw [e, Int32.le_iff_toInt_le, pk_sub_toInt (by omega) (by omega), nI_toInt (by omega)]
  omega
theorem wit_big {sz k : Nat} {x : Int32} (h : sz ≤ 40) (hk : k ≤ 6) (hx : 200 < x) : ¬ x ≤ nI sz - 3 * nI k - 3 := by
  have e : nI sz - 3 * nI k - 3 = nI sz - nI (3 * k + 3) := by
    rw [show (3 : Int32) * nI k = nI (3 * k) from pk_mul 3 k, ← nI_add (3 * k) 3, Int32.sub_eq_add_neg (nI sz), Int32.sub_eq_add_neg (nI sz), Int32.neg_add, Int32.sub_eq_add_neg, Int32.sub_eq_add_neg, Int32.add_assoc]
    rfl
  rw [e, Int32.le_iff_toInt_le, pk_sub_toInt (by omega) (by omega)]
  rw [Int32.lt_iff_toInt_lt] at hx
  have : (200 : Int32).toInt = 200 := by decide
  omega
theorem wit_ix {i N sz k : Nat} {at1 : Int32} (hi : i < 4) (hsz : sz ≤ 40) (hN : N ≤ 6) (h : 0 ≤ at1 ∧ at1 ≤ nI sz - 3 * nI k - 3) (hk : k < N) :
    vp_in (40 * nI i + at1 + 3 * nI k) 160 ∧ vp_in (40 * nI i + at1 + 3 * nI k + 1) 160 ∧ vp_in (40 * nI i + at1 + 3 * nI k + 2) 160 ∧
    (40 * nI i + at1 + 3 * nI k).toNatClampNeg = 40 * i + at1.toNatClampNeg + 3 * k ∧ (40 * nI i + at1 + 3 * nI k + 1).toNatClampNeg = 40 * i + at1.toNatClampNeg + 3 * k + 1 ∧ (40 * nI i + at1 + 3 * nI k + 2).toNatClampNeg = 40 * i + at1.toNatClampNeg + 3 * k + 2 := by
  obtain ⟨p, hp, rfl⟩ := nI_of (Int32.not_lt.mpr h.1)
  by_cases hb : p ≤ 200
  · have h2 := (wit_off hsz (by omega) hb).mp h.2
    rw [nI_clamp hp, show (40 : Int32) * nI i = nI (40 * i) from pk_mul 40 i, show (3 : Int32) * nI k = nI (3 * k) from pk_mul 3 k, nI_add, nI_add, show nI (40 * i + p + 3 * k) + 1 = nI (40 * i + p + 3 * k + 1) from nI_1 _, show nI (40 * i + p + 3 * k) + 2 = nI (40 * i + p + 3 * k + 2) from nI_add _ 2]
    exact ⟨nI_vp (by omega) (by decide), nI_vp (by omega) (by decide), nI_vp (by omega) (by decide), nI_clamp (by omega), nI_clamp (by omega), nI_clamp (by omega)⟩
  · exact absurd h.2 (wit_big hsz (by omega) (by rw [Int32.lt_iff_toInt_lt, nI_toInt hp, show (200 : Int32).toInt = 200 by decide]; omega))
set_option maxHeartbeats 1000000 in
theorem wits_ok {z : Nat → Int32} {w : Int64} {b : Nat → Nat → Int32} {p0 : WS} {i N sz : Nat} (hi : i < 4) (hN : N ≤ 6) (at1 : Int32) {so : Int32} (hso : 0 ≤ so ∧ so ≤ 2) (ht : ¬ p0.2.2 14 i = 0) (hs : p0.2.2 15 i = so) (hz : p0.2.2 16 i = nI sz) (hsz : sz ≤ 40) (hm : p0.2.1 11 = nI p0.1) (hm6 : p0.1 ≤ 6) : P0 2 0 0 mX11_witnesses (0, ent 8 [.ref 0, .int (nI i), .int so, .int at1, .int (nI N)], [], hC p0.2.1 z w p0.2.2 b) (fun r h' => ∃ K q c, K ≤ N ∧ wRun (p0.2.2 17) (40 * i + at1.toNatClampNeg) p0 K q c ∧ (∀ j, j < K → 0 ≤ at1 ∧ at1 ≤ nI sz - 3 * nI j - 3) ∧ ((K = N ∧ r = some (.int (nI c))) ∨ (K < N ∧ ¬ (0 ≤ at1 ∧ at1 ≤ nI sz - 3 * nI K - 3) ∧ r = some (.int (-12)))) ∧ h' = hC q.2.1 z w q.2.2 b) := by
  refine P0.b GX11_witnesses 1 (ob := []) (cf' := (1, [some (.ref 0), some (.int (nI i)), some (.int so), some (.int at1), some (.int (nI N)), none, none, none], [.int (nI i)], hC p0.2.1 z w p0.2.2 b)) rfl trivial ?_
  refine P0.cr (io := []) (as := [.int (nI i)]) (rest := []) (hc := []) (hc1 := []) (r1 := some (.int (if 0 ≤ nI i ∧ nI i ≤ 3 then 1 else 0))) (st' := [.int (if 0 ≤ nI i ∧ nI i ≤ 3 then 1 else 0)]) (h' := hC p0.2.1 z w p0.2.2 b) (d0 := 1) GX11_isSheet kX11_witnesses_1 rfl rfl (Nat.le_of_ble_eq_true rfl) (Nat.le_of_ble_eq_true rfl) rfl trivial (e_X11_isSheet (nI i)) (Nat.le_of_ble_eq_true rfl) rfl (Nat.le_of_ble_eq_true rfl) (Nat.le_of_ble_eq_true rfl) rfl rfl ?_
  refine P0.b GX11_witnesses 1 (ob := []) (cf' := (if (if 0 ≤ nI i ∧ nI i ≤ 3 then 1 else 0) = 0 then 32 else 7, [some (.ref 0), some (.int (nI i)), some (.int so), some (.int at1), some (.int (nI N)), none, none, none], [], hC p0.2.1 z w p0.2.2 b)) rfl trivial ?_
  rw [if_pos (show 0 ≤ nI i ∧ nI i ≤ 3 from sh_ok hi), if_neg (by decide)]
  refine P0.b GX11_witnesses 4 (ob := []) (cf' := (13, [some (.ref 0), some (.int (nI i)), some (.int so), some (.int at1), some (.int (nI N)), none, none, none], [.long 2, .long 0, .long so.toInt64], hC p0.2.1 z w p0.2.2 b)) rfl trivial ?_
  refine P0.cr (io := []) (as := [.long so.toInt64, .long ((0 : Int32).toInt64), .long ((2 : Int32).toInt64)]) (rest := []) (hc := []) (hc1 := []) (r1 := some (.int (if 0 ≤ so ∧ so ≤ 2 then 1 else 0))) (st' := [.int (if 0 ≤ so ∧ so ≤ 2 then 1 else 0)]) (h' := hC p0.2.1 z w p0.2.2 b) (d0 := 0) GX11_in kX11_witnesses_13 rfl rfl (Nat.le_of_ble_eq_true rfl) (Nat.le_of_ble_eq_true rfl) rfl trivial (e_in32 so 0 2) (Nat.le_of_ble_eq_true rfl) rfl (Nat.le_of_ble_eq_true rfl) (Nat.le_of_ble_eq_true rfl) rfl rfl ?_
  refine P0.b GX11_witnesses 1 (ob := []) (cf' := (if (if 0 ≤ so ∧ so ≤ 2 then 1 else 0) = 0 then 32 else 19, [some (.ref 0), some (.int (nI i)), some (.int so), some (.int at1), some (.int (nI N)), none, none, none], [], hC p0.2.1 z w p0.2.2 b)) rfl trivial ?_
  rw [if_pos (show 0 ≤ so ∧ so ≤ 2 from hso), if_neg (by decide)]
  refine P0.b GX11_witnesses 4 (ob := []) (cf' := (26, [some (.ref 0), some (.int (nI i)), some (.int so), some (.int at1), some (.int (nI N)), none, none, none], [.long 6, .long 0, .long ((nI N).toInt64)], hC p0.2.1 z w p0.2.2 b)) rfl trivial ?_
  refine P0.cr (io := []) (as := [.long ((nI N).toInt64), .long ((0 : Int32).toInt64), .long ((6 : Int32).toInt64)]) (rest := []) (hc := []) (hc1 := []) (r1 := some (.int (if 0 ≤ nI N ∧ nI N ≤ 6 then 1 else 0))) (st' := [.int (if 0 ≤ nI N ∧ nI N ≤ 6 then 1 else 0)]) (h' := hC p0.2.1 z w p0.2.2 b) (d0 := 0) GX11_in kX11_witnesses_26 rfl rfl (Nat.le_of_ble_eq_true rfl) (Nat.le_of_ble_eq_true rfl) rfl trivial (e_in32 (nI N) 0 6) (Nat.le_of_ble_eq_true rfl) rfl (Nat.le_of_ble_eq_true rfl) (Nat.le_of_ble_eq_true rfl) rfl rfl ?_
  refine P0.b GX11_witnesses 1 (ob := []) (cf' := (if (if 0 ≤ nI N ∧ nI N ≤ 6 then 1 else 0) = 0 then 32 else 35, [some (.ref 0), some (.int (nI i)), some (.int so), some (.int at1), some (.int (nI N)), none, none, none], [], hC p0.2.1 z w p0.2.2 b)) rfl trivial ?_
  rw [if_pos (show 0 ≤ nI N ∧ nI N ≤ 6 from ⟨nI_pos' (by omega), nI_le (b := 6) hN (by decide)⟩), if_neg (by decide)]
  refine P0.b GX11_witnesses 3 (ob := []) (cf' := (40, [some (.ref 0), some (.int (nI i)), some (.int so), some (.int at1), some (.int (nI N)), none, none, none], [.int (nI i), .ref 14], hC p0.2.1 z w p0.2.2 b)) rfl trivial ?_
  refine P0.b GX11_witnesses 2 (ob := [vp_in (nI i) 4]) (cf' := (if (p0.2.2 14) (nI i).toNatClampNeg = 0 then 57 else 44, [some (.ref 0), some (.int (nI i)), some (.int so), some (.int at1), some (.int (nI N)), none, none, none], [], hC p0.2.1 z w p0.2.2 b)) rfl ⟨(nI_vp hi (by decide)), trivial⟩ ?_
  rw [show (nI i).toNatClampNeg = i from nI_clamp (by omega)]
  rw [if_neg (show ¬ ((p0.2.2 14) i = 0) from ht)]
  refine P0.b GX11_witnesses 3 (ob := []) (cf' := (49, [some (.ref 0), some (.int (nI i)), some (.int so), some (.int at1), some (.int (nI N)), none, none, none], [.int (nI i), .ref 15], hC p0.2.1 z w p0.2.2 b)) rfl trivial ?_
  refine P0.b GX11_witnesses 3 (ob := [vp_in (nI i) 4]) (cf' := (if (p0.2.2 15) (nI i).toNatClampNeg = so then 57 else 54, [some (.ref 0), some (.int (nI i)), some (.int so), some (.int at1), some (.int (nI N)), none, none, none], [], hC p0.2.1 z w p0.2.2 b)) rfl ⟨(nI_vp hi (by decide)), trivial⟩ ?_
  rw [show (nI i).toNatClampNeg = i from nI_clamp (by omega)]
  rw [if_pos (show (p0.2.2 15) i = so from hs)]
  refine P0.b GX11_witnesses 3 (ob := []) (cf' := (62, [some (.ref 0), some (.int (nI i)), some (.int so), some (.int at1), some (.int (nI N)), none, none, none], [.int (nI i), .ref 14], hC p0.2.1 z w p0.2.2 b)) rfl trivial ?_
  refine P0.b GX11_witnesses 2 (ob := [vp_in (nI i) 4]) (cf' := (if (p0.2.2 14) (nI i).toNatClampNeg = 0 then 66 else 69, [some (.ref 0), some (.int (nI i)), some (.int so), some (.int at1), some (.int (nI N)), none, none, none], [], hC p0.2.1 z w p0.2.2 b)) rfl ⟨(nI_vp hi (by decide)), trivial⟩ ?_
  rw [show (nI i).toNatClampNeg = i from nI_clamp (by omega)]
  rw [if_neg (show ¬ ((p0.2.2 14) i = 0) from ht)]
  refine P0.b GX11_witnesses 4 (ob := []) (cf' := (75, [some (.ref 0), some (.int (nI i)), some (.int so), some (.int at1), some (.int (nI N)), some (.int 0), some (.int 0), none], [], hC p0.2.1 z w p0.2.2 b)) rfl trivial ?_
  show P0 _ _ _ _ (75, [some (.ref 0), some (.int (nI i)), some (.int so), some (.int at1), some (.int (nI N)), some (.int (nI 0)), some (.int 0), none], [], hC p0.2.1 z w p0.2.2 b) _
  refine P0.loopI (N := N) (fun k (v : WS × Nat) => wRun (p0.2.2 17) (40 * i + at1.toNatClampNeg) p0 k v.1 v.2 ∧ ∀ j, j < k → 0 ≤ at1 ∧ at1 ≤ nI sz - 3 * nI j - 3) (fun x109 v109 => (75, [some (.ref 0), some (.int (nI i)), some (.int so), some (.int at1), some (.int (nI N)), some (.int (nI v109.2)), some (.int x109), none], [], hC v109.1.2.1 z w v109.1.2.2 b)) (fun i109 v109 hi109 hI109 hk109 => ?_) (fun v109 hI109 => ?_) 0 (p0, 0) nI_0.symm (⟨⟨rfl, rfl⟩, fun j hj => absurd hj (Nat.not_lt_zero j)⟩)
  · show P0 _ _ _ _ (75, [some (.ref 0), some (.int (nI i)), some (.int so), some (.int at1), some (.int (nI N)), some (.int (nI v109.2)), some (.int (nI i109)), none], [], hC v109.1.2.1 z w v109.1.2.2 b) _
    have hv109 := hI109.1.inv hm hm6
    have h14109 : v109.1.2.2 16 i = nI sz := by rw [hv109.2.2.1 16 (by decide)]; exact hz
    refine P0.b GX11_witnesses 3 (ob := []) (cf' := (if nI N ≤ nI i109 then 167 else 82, [some (.ref 0), some (.int (nI i)), some (.int so), some (.int at1), some (.int (nI N)), some (.int (nI v109.2)), some (.int (nI i109)), none], [], hC v109.1.2.1 z w v109.1.2.2 b)) rfl trivial ?_
    rw [if_neg (show ¬ (nI N ≤ nI i109) from nI_ge hi109 (by omega))]
    refine P0.b GX11_witnesses 2 (ob := []) (cf' := (if at1 < 0 then 103 else 86, [some (.ref 0), some (.int (nI i)), some (.int so), some (.int at1), some (.int (nI N)), some (.int (nI v109.2)), some (.int (nI i109)), none], [], hC v109.1.2.1 z w v109.1.2.2 b)) rfl trivial ?_
    refine P0.if (fun h1 => ?_) (fun h1 => ?_)
    · refine P0.b GX11_witnesses 1 (ob := []) (cf' := (105, [some (.ref 0), some (.int (nI i)), some (.int so), some (.int at1), some (.int (nI N)), some (.int (nI v109.2)), some (.int (nI i109)), none], [.int (-12)], hC v109.1.2.1 z w v109.1.2.2 b)) rfl trivial ?_
      exact P0.ri (by decide +kernel) rfl rfl ⟨i109, v109.1, v109.2, Nat.le_of_lt hi109, hI109.1, hI109.2, .inr ⟨hi109, fun z => absurd z.1 (Int32.not_le.mpr h1), rfl⟩, rfl⟩
    · refine P0.b GX11_witnesses 4 (ob := []) (cf' := (92, [some (.ref 0), some (.int (nI i)), some (.int so), some (.int at1), some (.int (nI N)), some (.int (nI v109.2)), some (.int (nI i109)), none], [.int (nI i), .ref 16, .int at1], hC v109.1.2.1 z w v109.1.2.2 b)) rfl trivial ?_
      refine P0.b GX11_witnesses 8 (ob := [vp_in (nI i) 4]) (cf' := (if at1 ≤ (((v109.1.2.2 16) (nI i).toNatClampNeg) - (3 * (nI i109))) - 3 then 106 else 103, [some (.ref 0), some (.int (nI i)), some (.int so), some (.int at1), some (.int (nI N)), some (.int (nI v109.2)), some (.int (nI i109)), none], [], hC v109.1.2.1 z w v109.1.2.2 b)) rfl ⟨(nI_vp hi (by decide)), trivial⟩ ?_
      rw [show (nI i).toNatClampNeg = i from nI_clamp (by omega)]
      rw [show (v109.1.2.2 16) i = nI sz from h14109]
      refine P0.if (fun h2 => ?_) (fun h2 => ?_)
      · have hok109 : 0 ≤ at1 ∧ at1 ≤ nI sz - 3 * nI i109 - 3 := ⟨Int32.not_lt.mp h1, h2⟩
        refine P0.b GX11_witnesses 8 (ob := []) (cf' := (116, [some (.ref 0), some (.int (nI i)), some (.int so), some (.int at1), some (.int (nI N)), some (.int (nI v109.2)), some (.int (nI i109)), none], [.int (3 * (nI i109)), .int ((40 * (nI i)) + at1)], hC v109.1.2.1 z w v109.1.2.2 b)) rfl trivial ?_
        refine P0.b GX11_witnesses 7 (ob := []) (cf' := (128, [some (.ref 0), some (.int (nI i)), some (.int so), some (.int at1), some (.int (nI N)), some (.int (nI v109.2)), some (.int (nI i109)), some (.int (((40 * (nI i)) + at1) + (3 * (nI i109))))], [.int (((40 * (nI i)) + at1) + (3 * (nI i109))), .ref 17, .ref 0, .int (nI v109.2)], hC v109.1.2.1 z w v109.1.2.2 b)) rfl trivial ?_
        refine P0.b GX11_witnesses 6 (ob := [vp_in (((40 * (nI i)) + at1) + (3 * (nI i109))) 160]) (cf' := (137, [some (.ref 0), some (.int (nI i)), some (.int so), some (.int at1), some (.int (nI N)), some (.int (nI v109.2)), some (.int (nI i109)), some (.int (((40 * (nI i)) + at1) + (3 * (nI i109))))], [.int ((((40 * (nI i)) + at1) + (3 * (nI i109))) + 1), .ref 17, .int ((v109.1.2.2 17) (((40 * (nI i)) + at1) + (3 * (nI i109))).toNatClampNeg), .ref 0, .int (nI v109.2)], hC v109.1.2.1 z w v109.1.2.2 b)) rfl ⟨(by first | exact (wit_ix hi hsz hN hok109 hi109).1 | exact (wit_ix hi hsz hN hok109 hi109).2.1 | exact (wit_ix hi hsz hN hok109 hi109).2.2.1), trivial⟩ ?_
        rw [show (((40 * (nI i)) + at1) + (3 * (nI i109))).toNatClampNeg = (40 * i + at1.toNatClampNeg + 3 * i109) from (wit_ix hi hsz hN hok109 hi109).2.2.2.1]
        refine P0.b GX11_witnesses 6 (ob := [vp_in ((((40 * (nI i)) + at1) + (3 * (nI i109))) + 1) 160]) (cf' := (146, [some (.ref 0), some (.int (nI i)), some (.int so), some (.int at1), some (.int (nI N)), some (.int (nI v109.2)), some (.int (nI i109)), some (.int (((40 * (nI i)) + at1) + (3 * (nI i109))))], [.int ((((40 * (nI i)) + at1) + (3 * (nI i109))) + 2), .ref 17, .int ((v109.1.2.2 17) ((((40 * (nI i)) + at1) + (3 * (nI i109))) + 1).toNatClampNeg), .int ((v109.1.2.2 17) (40 * i + at1.toNatClampNeg + 3 * i109)), .ref 0, .int (nI v109.2)], hC v109.1.2.1 z w v109.1.2.2 b)) rfl ⟨(by first | exact (wit_ix hi hsz hN hok109 hi109).1 | exact (wit_ix hi hsz hN hok109 hi109).2.1 | exact (wit_ix hi hsz hN hok109 hi109).2.2.1), trivial⟩ ?_
        rw [show ((((40 * (nI i)) + at1) + (3 * (nI i109))) + 1).toNatClampNeg = (40 * i + at1.toNatClampNeg + 3 * i109 + 1) from (wit_ix hi hsz hN hok109 hi109).2.2.2.2.1]
        refine P0.b GX11_witnesses 1 (ob := [vp_in ((((40 * (nI i)) + at1) + (3 * (nI i109))) + 2) 160]) (cf' := (147, [some (.ref 0), some (.int (nI i)), some (.int so), some (.int at1), some (.int (nI N)), some (.int (nI v109.2)), some (.int (nI i109)), some (.int (((40 * (nI i)) + at1) + (3 * (nI i109))))], [.int ((v109.1.2.2 17) ((((40 * (nI i)) + at1) + (3 * (nI i109))) + 2).toNatClampNeg), .int ((v109.1.2.2 17) (40 * i + at1.toNatClampNeg + 3 * i109 + 1)), .int ((v109.1.2.2 17) (40 * i + at1.toNatClampNeg + 3 * i109)), .ref 0, .int (nI v109.2)], hC v109.1.2.1 z w v109.1.2.2 b)) rfl ⟨(by first | exact (wit_ix hi hsz hN hok109 hi109).1 | exact (wit_ix hi hsz hN hok109 hi109).2.1 | exact (wit_ix hi hsz hN hok109 hi109).2.2.1), trivial⟩ ?_
        rw [show ((((40 * (nI i)) + at1) + (3 * (nI i109))) + 2).toNatClampNeg = (40 * i + at1.toNatClampNeg + 3 * i109 + 2) from (wit_ix hi hsz hN hok109 hi109).2.2.2.2.2]
        refine P0.cs (as := [.ref 0, .int ((v109.1.2.2 17) (40 * i + at1.toNatClampNeg + 3 * i109)), .int ((v109.1.2.2 17) (40 * i + at1.toNatClampNeg + 3 * i109 + 1)), .int ((v109.1.2.2 17) (40 * i + at1.toNatClampNeg + 3 * i109 + 2))]) (rest := [.int (nI v109.2)]) GX11_witness kX11_witnesses_147 rfl ⟨_, _, rfl, rfl, .inl ⟨_, _, _, _, rfl, rfl⟩⟩ (Nat.le_of_ble_eq_true rfl) (Nat.le_of_ble_eq_true rfl) (P0.mono (e_witR v109.1 hv109.1 hv109.2.1 ((v109.1.2.2 17) (40 * i + at1.toNatClampNeg + 3 * i109)) ((v109.1.2.2 17) (40 * i + at1.toNatClampNeg + 3 * i109 + 1)) ((v109.1.2.2 17) (40 * i + at1.toNatClampNeg + 3 * i109 + 2))) (Nat.le_of_ble_eq_true rfl) (Nat.zero_le _) (Nat.zero_le _) (fun _ _ q => q)) (Nat.le_of_ble_eq_true rfl) (fun _ _ ⟨_, _, _, _, q⟩ => q ▸ rfl) ?_
        rintro _ _ ⟨q110, u110, hr110, rfl, rfl⟩
        show P0 _ _ _ _ (150, [some (.ref 0), some (.int (nI i)), some (.int so), some (.int at1), some (.int (nI N)), some (.int (nI v109.2)), some (.int (nI i109)), some (.int (((40 * (nI i)) + at1) + (3 * (nI i109))))], [.int u110, .int (nI v109.2)], hC q110.2.1 z w q110.2.2 b) _
        refine P0.b GX11_witnesses 1 (ob := []) (cf' := (if u110 < 0 then 157 else 153, [some (.ref 0), some (.int (nI i)), some (.int so), some (.int at1), some (.int (nI N)), some (.int (nI v109.2)), some (.int (nI i109)), some (.int (((40 * (nI i)) + at1) + (3 * (nI i109))))], [.int (nI v109.2)], hC q110.2.1 z w q110.2.2 b)) rfl trivial ?_
        refine P0.if (fun h3 => ?_) (fun h3 => ?_)
        · refine P0.b GX11_witnesses 5 (ob := []) (cf' := (75, [some (.ref 0), some (.int (nI i)), some (.int so), some (.int at1), some (.int (nI N)), some (.int ((nI v109.2) + 0)), some (.int ((nI i109) + 1)), some (.int (((40 * (nI i)) + at1) + (3 * (nI i109))))], [], hC q110.2.1 z w q110.2.2 b)) rfl trivial ?_
          have hr17109 : wRel v109.1 (p0.2.2 17 (40 * i + at1.toNatClampNeg + 3 * i109)) (p0.2.2 17 (40 * i + at1.toNatClampNeg + 3 * i109 + 1)) (p0.2.2 17 (40 * i + at1.toNatClampNeg + 3 * i109 + 2)) q110 u110 := by rw [← hv109.2.2.1 17 (by decide)]; exact hr110
          rw [show (nI v109.2) + 0 = nI (v109.2 + 0) from nI_add _ _]
          refine P0.forget (ls' := [some (.ref 0), some (.int (nI i)), some (.int so), some (.int at1), some (.int (nI N)), some (.int (nI (v109.2 + 0))), some (.int ((nI i109) + 1)), none]) ⟨.inr rfl, .inr rfl, .inr rfl, .inr rfl, .inr rfl, .inr rfl, .inr rfl, .inl rfl, trivial⟩ ?_
          exact hk109 _ (q110, v109.2 + 0) (nI_1 _) (⟨⟨v109.1, v109.2, u110, hI109.1, hr17109, by rw [if_pos h3]⟩, fun j hj => (Nat.lt_succ_iff_lt_or_eq.mp hj).elim (hI109.2 j) (fun e => by rw [e]; exact hok109)⟩)
        · refine P0.b GX11_witnesses 6 (ob := []) (cf' := (75, [some (.ref 0), some (.int (nI i)), some (.int so), some (.int at1), some (.int (nI N)), some (.int ((nI v109.2) + 1)), some (.int ((nI i109) + 1)), some (.int (((40 * (nI i)) + at1) + (3 * (nI i109))))], [], hC q110.2.1 z w q110.2.2 b)) rfl trivial ?_
          have hr17109 : wRel v109.1 (p0.2.2 17 (40 * i + at1.toNatClampNeg + 3 * i109)) (p0.2.2 17 (40 * i + at1.toNatClampNeg + 3 * i109 + 1)) (p0.2.2 17 (40 * i + at1.toNatClampNeg + 3 * i109 + 2)) q110 u110 := by rw [← hv109.2.2.1 17 (by decide)]; exact hr110
          rw [show (nI v109.2) + 1 = nI (v109.2 + 1) from nI_add _ _]
          refine P0.forget (ls' := [some (.ref 0), some (.int (nI i)), some (.int so), some (.int at1), some (.int (nI N)), some (.int (nI (v109.2 + 1))), some (.int ((nI i109) + 1)), none]) ⟨.inr rfl, .inr rfl, .inr rfl, .inr rfl, .inr rfl, .inr rfl, .inr rfl, .inl rfl, trivial⟩ ?_
          exact hk109 _ (q110, v109.2 + 1) (nI_1 _) (⟨⟨v109.1, v109.2, u110, hI109.1, hr17109, by rw [if_neg h3]⟩, fun j hj => (Nat.lt_succ_iff_lt_or_eq.mp hj).elim (hI109.2 j) (fun e => by rw [e]; exact hok109)⟩)
      · refine P0.b GX11_witnesses 1 (ob := []) (cf' := (105, [some (.ref 0), some (.int (nI i)), some (.int so), some (.int at1), some (.int (nI N)), some (.int (nI v109.2)), some (.int (nI i109)), none], [.int (-12)], hC v109.1.2.1 z w v109.1.2.2 b)) rfl trivial ?_
        exact P0.ri (by decide +kernel) rfl rfl ⟨i109, v109.1, v109.2, Nat.le_of_lt hi109, hI109.1, hI109.2, .inr ⟨hi109, fun z => h2 z.2, rfl⟩, rfl⟩
  · show P0 _ _ _ _ (75, [some (.ref 0), some (.int (nI i)), some (.int so), some (.int at1), some (.int (nI N)), some (.int (nI v109.2)), some (.int (nI N)), none], [], hC v109.1.2.1 z w v109.1.2.2 b) _
    refine P0.b GX11_witnesses 3 (ob := []) (cf' := (if nI N ≤ nI N then 167 else 82, [some (.ref 0), some (.int (nI i)), some (.int so), some (.int at1), some (.int (nI N)), some (.int (nI v109.2)), some (.int (nI N)), none], [], hC v109.1.2.1 z w v109.1.2.2 b)) rfl trivial ?_
    rw [if_pos (show nI N ≤ nI N from Int32.le_refl _)]
    refine P0.b GX11_witnesses 1 (ob := []) (cf' := (169, [some (.ref 0), some (.int (nI i)), some (.int so), some (.int at1), some (.int (nI N)), some (.int (nI v109.2)), some (.int (nI N)), none], [.int (nI v109.2)], hC v109.1.2.1 z w v109.1.2.2 b)) rfl trivial ?_
    exact P0.ri (by decide +kernel) rfl rfl ⟨N, v109.1, v109.2, Nat.le_refl _, hI109.1, hI109.2, .inl ⟨rfl, rfl⟩, rfl⟩
