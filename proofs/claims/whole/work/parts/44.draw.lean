/-! ===== laid by program (wip/tools) ===== -/
theorem Std1.same {a a' : Nat → Nat → Int32} {t : Nat} (h1 : a' 1 = a 1) (h2 : a' 2 = a 2) (h : Std1 a t) : Std1 a' t := by
  unfold Std1 Std TxOK rdT at h ⊢
  rw [h1, h2]
  exact h
theorem WOK.same {a a' : Nat → Nat → Int32} {x : Int32} (h6 : a' 6 = a 6) (h : WOK a x) : WOK a' x := by
  unfold WOK at h ⊢
  rw [h6]
  exact h
theorem sayV_same {a a' : Nat → Nat → Int32} {t : Nat} {age x s d last : Int32} (h1 : a' 1 = a 1) (h2 : a' 2 = a 2) (h5 : a' 5 = a 5) (h6 : a' 6 = a 6) : sayV a' t age x s d last = sayV a t age x s d last := by
  unfold sayV askV rdT
  rw [h1, h2, h5, h6]
theorem nowV_same {a a' : Nat → Nat → Int32} {t : Nat} {age x s : Int32} (h1 : a' 1 = a 1) (h2 : a' 2 = a 2) (h4 : a' 4 = a 4) (h5 : a' 5 = a 5) (h6 : a' 6 = a 6) : nowV a' t age x s = nowV a t age x s := by
  unfold nowV
  rw [sayV_same h1 h2 h5 h6, h4]
/-- the first n of one row over another -/
def cpN (f g : Nat → Int32) (n : Nat) : Nat → Int32 := fun y => if y < n then f y else g y
theorem cpN_0 {f g : Nat → Int32} : g = cpN f g 0 := by funext y; exact (if_neg (by omega)).symm
theorem cpN_s {f g : Nat → Int32} {k : Nat} : upd (cpN f g k) k (f k) = cpN f g (k + 1) := by
  funext y
  unfold upd cpN
  by_cases h : y = k
  · rw [if_pos h, if_pos (by omega), h]
  · rw [if_neg h]
    by_cases h2 : y < k
    · rw [if_pos h2, if_pos (by omega)]
    · rw [if_neg h2, if_neg (by omega)]
theorem cpN_at {f g : Nat → Int32} {k : Nat} : cpN f g k k = g k := if_neg (Nat.lt_irrefl k)
theorem cpN_back {f g d : Nat → Int32} {n : Nat} : cpN (cpN f g n) (cpN d f n) n = f := by
  funext y
  unfold cpN
  split
  · rfl
  · rfl
/-- a seed's numbers, and the doings that are drawn by them -/
def zS (seed : Int32) (k : Nat) : Int32 := it (fun _ z => z * 1103515245 + 12345) k seed
def drD (seed : Int32) (s : Nat) : Int32 := let y := ((zS seed (s + 1)).toUInt32 >>> ((9 : Int32).toUInt32 &&& Int32.toUInt32 31)).toInt32; y - y / 4 * 4
set_option maxHeartbeats 1000000 in
theorem image {g z : Nat → Int32} {w : Int64} {a b : Nat → Nat → Int32} : P0 0 0 0 mX11_image (0, ent 2 [.ref 0], [], hC g z w a b) (fun r h' => r = some (.int (g 11)) ∧ h' = hC (upd (upd (upd g 34 (g 11)) 35 (g 7)) 36 (g 4)) z w (up2 (up2 a 12 (cpN (a 4) (a 12) 6)) 13 (cpN (a 6) (a 13) 18)) b) := by
  refine P0.b GX11_image 2 (ob := []) (cf' := (2, [some (.ref 0), some (.int 0)], [], hC g z w a b)) rfl trivial ?_
  rw [show hC g z w a b = hC g z w (up2 a 12 (a 12)) b from by rw [up2_self0 rfl]]
  refine P0.loopI (N := 6) (fun k v => v = cpN (a 4) (a 12) k) (fun x93 v93 => (2, [some (.ref 0), some (.int x93)], [], hC g z w (up2 a 12 v93) b)) (fun i93 v93 hi93 hI93 hk93 => ?_) (fun v93 hI93 => ?_) 0 (a 12) nI_0.symm cpN_0
  · show P0 _ _ _ _ (2, [some (.ref 0), some (.int (nI i93))], [], hC g z w (up2 a 12 v93) b) _
    refine P0.b GX11_image 3 (ob := []) (cf' := (if 6 ≤ nI i93 then 26 else 8, [some (.ref 0), some (.int (nI i93))], [], hC g z w (up2 a 12 v93) b)) rfl trivial ?_
    rw [if_neg (show ¬ (6 ≤ nI i93) from nI_ge hi93 (by decide))]
    refine P0.b GX11_image 6 (ob := []) (cf' := (18, [some (.ref 0), some (.int (nI i93))], [.int (nI i93), .ref 4, .int (nI i93), .ref 12], hC g z w (up2 a 12 v93) b)) rfl trivial ?_
    refine P0.b GX11_image 1 (ob := [vp_in (nI i93) 6]) (cf' := (19, [some (.ref 0), some (.int (nI i93))], [.int ((a 4) (nI i93).toNatClampNeg), .int (nI i93), .ref 12], hC g z w (up2 a 12 v93) b)) rfl ⟨(nI_vp (by omega) (by decide)), trivial⟩ ?_
    rw [show (nI i93).toNatClampNeg = i93 from nI_clamp (by omega)]
    refine P0.b GX11_image 1 (ob := [vp_in (nI i93) 6]) (cf' := (20, [some (.ref 0), some (.int (nI i93))], [], hC g z w (up2 a 12 (upd v93 (nI i93).toNatClampNeg ((a 4) i93))) b)) rfl ⟨(nI_vp (by omega) (by decide)), trivial⟩ ?_
    rw [show (nI i93).toNatClampNeg = i93 from nI_clamp (by omega)]
    refine P0.b GX11_image 2 (ob := []) (cf' := (2, [some (.ref 0), some (.int ((nI i93) + 1))], [], hC g z w (up2 a 12 (upd v93 i93 ((a 4) i93))) b)) rfl trivial ?_
    rw [show (nI i93) + 1 = nI (i93 + 1) from nI_add _ _]
    exact hk93 _ (upd v93 i93 ((a 4) i93)) rfl (by rw [hI93]; exact cpN_s)
  · show P0 _ _ _ _ (2, [some (.ref 0), some (.int 6)], [], hC g z w (up2 a 12 v93) b) _
    refine P0.b GX11_image 3 (ob := []) (cf' := (if (6 : Int32) ≤ 6 then 26 else 8, [some (.ref 0), some (.int 6)], [], hC g z w (up2 a 12 v93) b)) rfl trivial ?_
    rw [if_pos (show ((6 : Int32) ≤ 6) from by decide)]
    refine P0.b GX11_image 2 (ob := []) (cf' := (28, [some (.ref 0), some (.int 0)], [], hC g z w (up2 a 12 v93) b)) rfl trivial ?_
    rw [hI93]
    rw [show hC g z w (up2 a 12 (cpN (a 4) (a 12) 6)) b = hC g z w (up2 (up2 a 12 (cpN (a 4) (a 12) 6)) 13 (a 13)) b from by rw [up2_self0 ((up2_n (by decide)).trans rfl)]]
    refine P0.loopI (N := 18) (fun k v => v = cpN (a 6) (a 13) k) (fun x94 v94 => (28, [some (.ref 0), some (.int x94)], [], hC g z w (up2 (up2 a 12 (cpN (a 4) (a 12) 6)) 13 v94) b)) (fun i94 v94 hi94 hI94 hk94 => ?_) (fun v94 hI94 => ?_) 0 (a 13) nI_0.symm cpN_0
    · show P0 _ _ _ _ (28, [some (.ref 0), some (.int (nI i94))], [], hC g z w (up2 (up2 a 12 (cpN (a 4) (a 12) 6)) 13 v94) b) _
      refine P0.b GX11_image 3 (ob := []) (cf' := (if 18 ≤ nI i94 then 52 else 34, [some (.ref 0), some (.int (nI i94))], [], hC g z w (up2 (up2 a 12 (cpN (a 4) (a 12) 6)) 13 v94) b)) rfl trivial ?_
      rw [if_neg (show ¬ (18 ≤ nI i94) from nI_ge hi94 (by decide))]
      refine P0.b GX11_image 6 (ob := []) (cf' := (44, [some (.ref 0), some (.int (nI i94))], [.int (nI i94), .ref 6, .int (nI i94), .ref 13], hC g z w (up2 (up2 a 12 (cpN (a 4) (a 12) 6)) 13 v94) b)) rfl trivial ?_
      refine P0.b GX11_image 1 (ob := [vp_in (nI i94) 18]) (cf' := (45, [some (.ref 0), some (.int (nI i94))], [.int ((a 6) (nI i94).toNatClampNeg), .int (nI i94), .ref 13], hC g z w (up2 (up2 a 12 (cpN (a 4) (a 12) 6)) 13 v94) b)) rfl ⟨(nI_vp (by omega) (by decide)), trivial⟩ ?_
      rw [show (nI i94).toNatClampNeg = i94 from nI_clamp (by omega)]
      refine P0.b GX11_image 1 (ob := [vp_in (nI i94) 18]) (cf' := (46, [some (.ref 0), some (.int (nI i94))], [], hC g z w (up2 (up2 a 12 (cpN (a 4) (a 12) 6)) 13 (upd v94 (nI i94).toNatClampNeg ((a 6) i94))) b)) rfl ⟨(nI_vp (by omega) (by decide)), trivial⟩ ?_
      rw [show (nI i94).toNatClampNeg = i94 from nI_clamp (by omega)]
      refine P0.b GX11_image 2 (ob := []) (cf' := (28, [some (.ref 0), some (.int ((nI i94) + 1))], [], hC g z w (up2 (up2 a 12 (cpN (a 4) (a 12) 6)) 13 (upd v94 i94 ((a 6) i94))) b)) rfl trivial ?_
      rw [show (nI i94) + 1 = nI (i94 + 1) from nI_add _ _]
      exact hk94 _ (upd v94 i94 ((a 6) i94)) rfl (by rw [hI94]; exact cpN_s)
    · show P0 _ _ _ _ (28, [some (.ref 0), some (.int 18)], [], hC g z w (up2 (up2 a 12 (cpN (a 4) (a 12) 6)) 13 v94) b) _
      refine P0.b GX11_image 3 (ob := []) (cf' := (if (18 : Int32) ≤ 18 then 52 else 34, [some (.ref 0), some (.int 18)], [], hC g z w (up2 (up2 a 12 (cpN (a 4) (a 12) 6)) 13 v94) b)) rfl trivial ?_
      rw [if_pos (show ((18 : Int32) ≤ 18) from by decide)]
      refine P0.b GX11_image 4 (ob := []) (cf' := (60, [some (.ref 0), some (.int 18)], [], hC (upd g 34 (g 11)) z w (up2 (up2 a 12 (cpN (a 4) (a 12) 6)) 13 v94) b)) rfl trivial ?_
      refine P0.b GX11_image 4 (ob := []) (cf' := (68, [some (.ref 0), some (.int 18)], [], hC (upd (upd g 34 (g 11)) 35 (g 7)) z w (up2 (up2 a 12 (cpN (a 4) (a 12) 6)) 13 v94) b)) rfl trivial ?_
      refine P0.b GX11_image 4 (ob := []) (cf' := (76, [some (.ref 0), some (.int 18)], [], hC (upd (upd (upd g 34 (g 11)) 35 (g 7)) 36 (g 4)) z w (up2 (up2 a 12 (cpN (a 4) (a 12) 6)) 13 v94) b)) rfl trivial ?_
      refine P0.b GX11_image 2 (ob := []) (cf' := (80, [some (.ref 0), some (.int 18)], [.int (g 11)], hC (upd (upd (upd g 34 (g 11)) 35 (g 7)) 36 (g 4)) z w (up2 (up2 a 12 (cpN (a 4) (a 12) 6)) 13 v94) b)) rfl trivial ?_
      exact P0.ri (by decide +kernel) rfl rfl ⟨rfl, by rw [hI94]⟩
set_option maxHeartbeats 1000000 in
theorem back_yes {g z : Nat → Int32} {w : Int64} {a b : Nat → Nat → Int32} (h : ¬ g 34 = -1) : P0 0 0 0 mX11_back (0, ent 2 [.ref 0], [], hC g z w a b) (fun r h' => r = some (.int (g 34)) ∧ h' = hC (upd (upd (upd g 11 (g 34)) 7 (g 35)) 4 (g 36)) z w (up2 (up2 a 4 (cpN (a 12) (a 4) 6)) 6 (cpN (a 13) (a 6) 18)) b) := by
  refine P0.b GX11_back 4 (ob := []) (cf' := (if g 34 = -1 then 8 else 11, [some (.ref 0), none], [], hC g z w a b)) rfl trivial ?_
  rw [if_neg (show ¬ (g 34 = -1) from h)]
  refine P0.b GX11_back 2 (ob := []) (cf' := (13, [some (.ref 0), some (.int 0)], [], hC g z w a b)) rfl trivial ?_
  rw [show hC g z w a b = hC g z w (up2 a 4 (a 4)) b from by rw [up2_self0 rfl]]
  refine P0.loopI (N := 6) (fun k v => v = cpN (a 12) (a 4) k) (fun x95 v95 => (13, [some (.ref 0), some (.int x95)], [], hC g z w (up2 a 4 v95) b)) (fun i95 v95 hi95 hI95 hk95 => ?_) (fun v95 hI95 => ?_) 0 (a 4) nI_0.symm cpN_0
  · show P0 _ _ _ _ (13, [some (.ref 0), some (.int (nI i95))], [], hC g z w (up2 a 4 v95) b) _
    refine P0.b GX11_back 3 (ob := []) (cf' := (if 6 ≤ nI i95 then 37 else 19, [some (.ref 0), some (.int (nI i95))], [], hC g z w (up2 a 4 v95) b)) rfl trivial ?_
    rw [if_neg (show ¬ (6 ≤ nI i95) from nI_ge hi95 (by decide))]
    refine P0.b GX11_back 6 (ob := []) (cf' := (29, [some (.ref 0), some (.int (nI i95))], [.int (nI i95), .ref 12, .int (nI i95), .ref 4], hC g z w (up2 a 4 v95) b)) rfl trivial ?_
    refine P0.b GX11_back 1 (ob := [vp_in (nI i95) 6]) (cf' := (30, [some (.ref 0), some (.int (nI i95))], [.int ((a 12) (nI i95).toNatClampNeg), .int (nI i95), .ref 4], hC g z w (up2 a 4 v95) b)) rfl ⟨(nI_vp (by omega) (by decide)), trivial⟩ ?_
    rw [show (nI i95).toNatClampNeg = i95 from nI_clamp (by omega)]
    refine P0.b GX11_back 1 (ob := [vp_in (nI i95) 6]) (cf' := (31, [some (.ref 0), some (.int (nI i95))], [], hC g z w (up2 a 4 (upd v95 (nI i95).toNatClampNeg ((a 12) i95))) b)) rfl ⟨(nI_vp (by omega) (by decide)), trivial⟩ ?_
    rw [show (nI i95).toNatClampNeg = i95 from nI_clamp (by omega)]
    refine P0.b GX11_back 2 (ob := []) (cf' := (13, [some (.ref 0), some (.int ((nI i95) + 1))], [], hC g z w (up2 a 4 (upd v95 i95 ((a 12) i95))) b)) rfl trivial ?_
    rw [show (nI i95) + 1 = nI (i95 + 1) from nI_add _ _]
    exact hk95 _ (upd v95 i95 ((a 12) i95)) rfl (by rw [hI95]; exact cpN_s)
  · show P0 _ _ _ _ (13, [some (.ref 0), some (.int 6)], [], hC g z w (up2 a 4 v95) b) _
    refine P0.b GX11_back 3 (ob := []) (cf' := (if (6 : Int32) ≤ 6 then 37 else 19, [some (.ref 0), some (.int 6)], [], hC g z w (up2 a 4 v95) b)) rfl trivial ?_
    rw [if_pos (show ((6 : Int32) ≤ 6) from by decide)]
    refine P0.b GX11_back 2 (ob := []) (cf' := (39, [some (.ref 0), some (.int 0)], [], hC g z w (up2 a 4 v95) b)) rfl trivial ?_
    rw [hI95]
    rw [show hC g z w (up2 a 4 (cpN (a 12) (a 4) 6)) b = hC g z w (up2 (up2 a 4 (cpN (a 12) (a 4) 6)) 6 (a 6)) b from by rw [up2_self0 ((up2_n (by decide)).trans rfl)]]
    refine P0.loopI (N := 18) (fun k v => v = cpN (a 13) (a 6) k) (fun x96 v96 => (39, [some (.ref 0), some (.int x96)], [], hC g z w (up2 (up2 a 4 (cpN (a 12) (a 4) 6)) 6 v96) b)) (fun i96 v96 hi96 hI96 hk96 => ?_) (fun v96 hI96 => ?_) 0 (a 6) nI_0.symm cpN_0
    · show P0 _ _ _ _ (39, [some (.ref 0), some (.int (nI i96))], [], hC g z w (up2 (up2 a 4 (cpN (a 12) (a 4) 6)) 6 v96) b) _
      refine P0.b GX11_back 3 (ob := []) (cf' := (if 18 ≤ nI i96 then 63 else 45, [some (.ref 0), some (.int (nI i96))], [], hC g z w (up2 (up2 a 4 (cpN (a 12) (a 4) 6)) 6 v96) b)) rfl trivial ?_
      rw [if_neg (show ¬ (18 ≤ nI i96) from nI_ge hi96 (by decide))]
      refine P0.b GX11_back 6 (ob := []) (cf' := (55, [some (.ref 0), some (.int (nI i96))], [.int (nI i96), .ref 13, .int (nI i96), .ref 6], hC g z w (up2 (up2 a 4 (cpN (a 12) (a 4) 6)) 6 v96) b)) rfl trivial ?_
      refine P0.b GX11_back 1 (ob := [vp_in (nI i96) 18]) (cf' := (56, [some (.ref 0), some (.int (nI i96))], [.int ((a 13) (nI i96).toNatClampNeg), .int (nI i96), .ref 6], hC g z w (up2 (up2 a 4 (cpN (a 12) (a 4) 6)) 6 v96) b)) rfl ⟨(nI_vp (by omega) (by decide)), trivial⟩ ?_
      rw [show (nI i96).toNatClampNeg = i96 from nI_clamp (by omega)]
      refine P0.b GX11_back 1 (ob := [vp_in (nI i96) 18]) (cf' := (57, [some (.ref 0), some (.int (nI i96))], [], hC g z w (up2 (up2 a 4 (cpN (a 12) (a 4) 6)) 6 (upd v96 (nI i96).toNatClampNeg ((a 13) i96))) b)) rfl ⟨(nI_vp (by omega) (by decide)), trivial⟩ ?_
      rw [show (nI i96).toNatClampNeg = i96 from nI_clamp (by omega)]
      refine P0.b GX11_back 2 (ob := []) (cf' := (39, [some (.ref 0), some (.int ((nI i96) + 1))], [], hC g z w (up2 (up2 a 4 (cpN (a 12) (a 4) 6)) 6 (upd v96 i96 ((a 13) i96))) b)) rfl trivial ?_
      rw [show (nI i96) + 1 = nI (i96 + 1) from nI_add _ _]
      exact hk96 _ (upd v96 i96 ((a 13) i96)) rfl (by rw [hI96]; exact cpN_s)
    · show P0 _ _ _ _ (39, [some (.ref 0), some (.int 18)], [], hC g z w (up2 (up2 a 4 (cpN (a 12) (a 4) 6)) 6 v96) b) _
      refine P0.b GX11_back 3 (ob := []) (cf' := (if (18 : Int32) ≤ 18 then 63 else 45, [some (.ref 0), some (.int 18)], [], hC g z w (up2 (up2 a 4 (cpN (a 12) (a 4) 6)) 6 v96) b)) rfl trivial ?_
      rw [if_pos (show ((18 : Int32) ≤ 18) from by decide)]
      refine P0.b GX11_back 4 (ob := []) (cf' := (71, [some (.ref 0), some (.int 18)], [], hC (upd g 11 (g 34)) z w (up2 (up2 a 4 (cpN (a 12) (a 4) 6)) 6 v96) b)) rfl trivial ?_
      refine P0.b GX11_back 4 (ob := []) (cf' := (79, [some (.ref 0), some (.int 18)], [], hC (upd (upd g 11 (g 34)) 7 (g 35)) z w (up2 (up2 a 4 (cpN (a 12) (a 4) 6)) 6 v96) b)) rfl trivial ?_
      refine P0.b GX11_back 4 (ob := []) (cf' := (87, [some (.ref 0), some (.int 18)], [], hC (upd (upd (upd g 11 (g 34)) 7 (g 35)) 4 (g 36)) z w (up2 (up2 a 4 (cpN (a 12) (a 4) 6)) 6 v96) b)) rfl trivial ?_
      refine P0.b GX11_back 2 (ob := []) (cf' := (91, [some (.ref 0), some (.int 18)], [.int (g 34)], hC (upd (upd (upd g 11 (g 34)) 7 (g 35)) 4 (g 36)) z w (up2 (up2 a 4 (cpN (a 12) (a 4) 6)) 6 v96) b)) rfl trivial ?_
      exact P0.ri (by decide +kernel) rfl rfl ⟨rfl, by rw [hI96]⟩
set_option maxHeartbeats 1000000 in
theorem back_no {g z : Nat → Int32} {w : Int64} {a b : Nat → Nat → Int32} (h : g 34 = -1) : P0 0 0 0 mX11_back (0, ent 2 [.ref 0], [], hC g z w a b) (fun r h' => r = some (.int (-3)) ∧ h' = hC g z w a b) := by
  refine P0.b GX11_back 4 (ob := []) (cf' := (if g 34 = -1 then 8 else 11, [some (.ref 0), none], [], hC g z w a b)) rfl trivial ?_
  rw [if_pos (show g 34 = -1 from h)]
  refine P0.b GX11_back 1 (ob := []) (cf' := (10, [some (.ref 0), none], [.int (-3)], hC g z w a b)) rfl trivial ?_
  exact P0.ri (by decide +kernel) rfl rfl ⟨rfl, rfl⟩
set_option maxHeartbeats 1000000 in
theorem e_draws {g z : Nat → Int32} {w : Int64} {a b : Nat → Nat → Int32} {t m : Nat} (hr : g 4 = nI t) (hS : Std1 a t) (hm : g 11 = nI m) (hm6 : m ≤ 6) (hW : ∀ i, i < m → WOK a (nI i)) (seed : Int32) : P0 46 0 0 mX11_draws (0, ent 4 [.ref 0, .int seed], [], hC g z w a b) (fun r h' => ∃ z' w' T R, R = gatV (up2 a 4 (cpN (drD seed) (a 4) 6)) t (g 7) m (b 7) (b 8) ∧ r = none ∧ h' = hC g z' w' (up2 a 4 (cpN (drD seed) (a 4) 6)) (up2 (up2 (up2 b 11 (cpN (a 4) (b 11) 6)) 7 T) 8 R)) := by
  refine P0.b GX11_draws 4 (ob := []) (cf' := (4, [some (.ref 0), some (.int seed), some (.int seed), some (.int 0)], [], hC g z w a b)) rfl trivial ?_
  rw [show hC g z w a b = hC g z w (up2 a 4 (a 4)) (up2 b 11 (b 11)) from by rw [up2_self, up2_self]]
  refine P0.loopI (N := 6) (fun k (v : Int32 × (Nat → Int32) × (Nat → Int32)) => v.1 = zS seed k ∧ v.2.1 = cpN (a 4) (b 11) k ∧ v.2.2 = cpN (drD seed) (a 4) k) (fun x97 v97 => (4, [some (.ref 0), some (.int seed), some (.int v97.1), some (.int x97)], [], hC g z w (up2 a 4 v97.2.2) (up2 b 11 v97.2.1))) (fun i97 v97 hi97 hI97 hk97 => ?_) (fun v97 hI97 => ?_) 0 (seed, b 11, a 4) nI_0.symm (⟨rfl, cpN_0, cpN_0⟩)
  · show P0 _ _ _ _ (4, [some (.ref 0), some (.int seed), some (.int v97.1), some (.int (nI i97))], [], hC g z w (up2 a 4 v97.2.2) (up2 b 11 v97.2.1)) _
    refine P0.b GX11_draws 3 (ob := []) (cf' := (if 6 ≤ nI i97 then 50 else 10, [some (.ref 0), some (.int seed), some (.int v97.1), some (.int (nI i97))], [], hC g z w (up2 a 4 v97.2.2) (up2 b 11 v97.2.1))) rfl trivial ?_
    rw [if_neg (show ¬ (6 ≤ nI i97) from nI_ge hi97 (by decide))]
    refine P0.b GX11_draws 6 (ob := []) (cf' := (20, [some (.ref 0), some (.int seed), some (.int v97.1), some (.int (nI i97))], [.int (nI i97), .ref 4, .int (nI i97), .ref 11], hC g z w (up2 a 4 v97.2.2) (up2 b 11 v97.2.1))) rfl trivial ?_
    refine P0.b GX11_draws 1 (ob := [vp_in (nI i97) 6]) (cf' := (21, [some (.ref 0), some (.int seed), some (.int v97.1), some (.int (nI i97))], [.int (v97.2.2 (nI i97).toNatClampNeg), .int (nI i97), .ref 11], hC g z w (up2 a 4 v97.2.2) (up2 b 11 v97.2.1))) rfl ⟨(nI_vp (by omega) (by decide)), trivial⟩ ?_
    rw [show (nI i97).toNatClampNeg = i97 from nI_clamp (by omega)]
    refine P0.b GX11_draws 1 (ob := [vp_in (nI i97) 6]) (cf' := (22, [some (.ref 0), some (.int seed), some (.int v97.1), some (.int (nI i97))], [], hC g z w (up2 a 4 v97.2.2) (up2 b 11 (upd v97.2.1 (nI i97).toNatClampNeg (v97.2.2 i97))))) rfl ⟨(nI_vp (by omega) (by decide)), trivial⟩ ?_
    rw [show (nI i97).toNatClampNeg = i97 from nI_clamp (by omega)]
    refine P0.b GX11_draws 8 (ob := []) (cf' := (36, [some (.ref 0), some (.int seed), some (.int ((v97.1 * 1103515245) + 12345)), some (.int (nI i97))], [.ref 4], hC g z w (up2 a 4 v97.2.2) (up2 b 11 (upd v97.2.1 i97 (v97.2.2 i97))))) rfl trivial ?_
    refine P0.b GX11_draws 6 (ob := [¬ (4 : Int32) = 0]) (cf' := (43, [some (.ref 0), some (.int seed), some (.int ((v97.1 * 1103515245) + 12345)), some (.int (nI i97))], [.int (((((v97.1 * 1103515245) + 12345).toUInt32 >>> ((9 : Int32).toUInt32 &&& Int32.toUInt32 31)).toInt32) - ((((v97.1 * 1103515245) + 12345).toUInt32 >>> ((9 : Int32).toUInt32 &&& Int32.toUInt32 31)).toInt32) / 4 * 4), .int (nI i97), .ref 4], hC g z w (up2 a 4 v97.2.2) (up2 b 11 (upd v97.2.1 i97 (v97.2.2 i97))))) rfl ⟨(by decide), trivial⟩ ?_
    refine P0.b GX11_draws 1 (ob := [vp_in (nI i97) 6]) (cf' := (44, [some (.ref 0), some (.int seed), some (.int ((v97.1 * 1103515245) + 12345)), some (.int (nI i97))], [], hC g z w (up2 a 4 (upd v97.2.2 (nI i97).toNatClampNeg (((((v97.1 * 1103515245) + 12345).toUInt32 >>> ((9 : Int32).toUInt32 &&& Int32.toUInt32 31)).toInt32) - ((((v97.1 * 1103515245) + 12345).toUInt32 >>> ((9 : Int32).toUInt32 &&& Int32.toUInt32 31)).toInt32) / 4 * 4))) (up2 b 11 (upd v97.2.1 i97 (v97.2.2 i97))))) rfl ⟨(nI_vp (by omega) (by decide)), trivial⟩ ?_
    rw [show (nI i97).toNatClampNeg = i97 from nI_clamp (by omega)]
    refine P0.b GX11_draws 2 (ob := []) (cf' := (4, [some (.ref 0), some (.int seed), some (.int ((v97.1 * 1103515245) + 12345)), some (.int ((nI i97) + 1))], [], hC g z w (up2 a 4 (upd v97.2.2 i97 (((((v97.1 * 1103515245) + 12345).toUInt32 >>> ((9 : Int32).toUInt32 &&& Int32.toUInt32 31)).toInt32) - ((((v97.1 * 1103515245) + 12345).toUInt32 >>> ((9 : Int32).toUInt32 &&& Int32.toUInt32 31)).toInt32) / 4 * 4))) (up2 b 11 (upd v97.2.1 i97 (v97.2.2 i97))))) rfl trivial ?_
    rw [show (nI i97) + 1 = nI (i97 + 1) from nI_add _ _]
    exact hk97 _ ((v97.1 * 1103515245) + 12345, upd v97.2.1 i97 (v97.2.2 i97), upd v97.2.2 i97 (((((v97.1 * 1103515245) + 12345).toUInt32 >>> ((9 : Int32).toUInt32 &&& Int32.toUInt32 31)).toInt32) - ((((v97.1 * 1103515245) + 12345).toUInt32 >>> ((9 : Int32).toUInt32 &&& Int32.toUInt32 31)).toInt32) / 4 * 4)) rfl (⟨by rw [hI97.1]; rfl, by rw [hI97.2.1, hI97.2.2, cpN_at]; exact cpN_s, by rw [hI97.1, hI97.2.2]; exact cpN_s (f := drD seed)⟩)
  · show P0 _ _ _ _ (4, [some (.ref 0), some (.int seed), some (.int v97.1), some (.int 6)], [], hC g z w (up2 a 4 v97.2.2) (up2 b 11 v97.2.1)) _
    refine P0.b GX11_draws 3 (ob := []) (cf' := (if (6 : Int32) ≤ 6 then 50 else 10, [some (.ref 0), some (.int seed), some (.int v97.1), some (.int 6)], [], hC g z w (up2 a 4 v97.2.2) (up2 b 11 v97.2.1))) rfl trivial ?_
    rw [if_pos (show ((6 : Int32) ≤ 6) from by decide)]
    refine P0.b GX11_draws 1 (ob := []) (cf' := (51, [some (.ref 0), some (.int seed), some (.int v97.1), some (.int 6)], [.ref 0], hC g z w (up2 a 4 v97.2.2) (up2 b 11 v97.2.1))) rfl trivial ?_
    rw [hI97.2.1, hI97.2.2]
    refine P0.forget (ls' := [some (.ref 0), some (.int seed), none, some (.int 6)]) ⟨.inr rfl, .inr rfl, .inl rfl, .inr rfl, trivial⟩ ?_
    refine P0.cs (as := [.ref 0]) (rest := []) GX11_gathers kX11_draws_51 rfl ⟨_, _, rfl, rfl, .inl ⟨_, _, _, _, rfl, rfl⟩⟩ (Nat.le_of_ble_eq_true rfl) (Nat.le_of_ble_eq_true rfl) (P0.mono (e_gathers hr (Std1.same (up2_n (by decide)) (up2_n (by decide)) hS) hm hm6 (fun i hi => WOK.same (up2_n (by decide)) (hW i hi)) (up2_n (by decide)) (up2_n (by decide))) (Nat.le_of_ble_eq_true rfl) (Nat.zero_le _) (Nat.zero_le _) (fun _ _ q => q)) (Nat.le_of_ble_eq_true rfl) (fun _ _ ⟨_, _, _, _, _, _, _, q⟩ => q ▸ rfl) ?_
    rintro _ _ ⟨z98, w98, T, R, hT, hR, rfl, rfl⟩
    show P0 _ _ _ _ (54, [some (.ref 0), some (.int seed), none, some (.int 6)], [], hC g z98 w98 (up2 a 4 (cpN (drD seed) (a 4) 6)) (up2 (up2 (up2 b 11 (cpN (a 4) (b 11) 6)) 7 T) 8 R)) _
    exact P0.rv (by decide +kernel) rfl ⟨_, _, T, R, hR, rfl, rfl⟩
set_option maxHeartbeats 1000000 in
theorem e_laysBack0 {g z : Nat → Int32} {w : Int64} {a b : Nat → Nat → Int32} : P0 0 0 0 mX11_laysBack (0, ent 2 [.ref 0], [], hC g z w a b) (fun r h' => r = none ∧ h' = hC g z w (up2 a 4 (cpN (b 11) (a 4) 6)) b) := by
  refine P0.b GX11_laysBack 2 (ob := []) (cf' := (2, [some (.ref 0), some (.int 0)], [], hC g z w a b)) rfl trivial ?_
  rw [show hC g z w a b = hC g z w (up2 a 4 (a 4)) b from by rw [up2_self]]
  refine P0.loopI (N := 6) (fun k v => v = cpN (b 11) (a 4) k) (fun x99 v99 => (2, [some (.ref 0), some (.int x99)], [], hC g z w (up2 a 4 v99) b)) (fun i99 v99 hi99 hI99 hk99 => ?_) (fun v99 hI99 => ?_) 0 (a 4) nI_0.symm cpN_0
  · show P0 _ _ _ _ (2, [some (.ref 0), some (.int (nI i99))], [], hC g z w (up2 a 4 v99) b) _
    refine P0.b GX11_laysBack 3 (ob := []) (cf' := (if 6 ≤ nI i99 then 26 else 8, [some (.ref 0), some (.int (nI i99))], [], hC g z w (up2 a 4 v99) b)) rfl trivial ?_
    rw [if_neg (show ¬ (6 ≤ nI i99) from nI_ge hi99 (by decide))]
    refine P0.b GX11_laysBack 6 (ob := []) (cf' := (18, [some (.ref 0), some (.int (nI i99))], [.int (nI i99), .ref 11, .int (nI i99), .ref 4], hC g z w (up2 a 4 v99) b)) rfl trivial ?_
    refine P0.b GX11_laysBack 1 (ob := [vp_in (nI i99) 6]) (cf' := (19, [some (.ref 0), some (.int (nI i99))], [.int ((b 11) (nI i99).toNatClampNeg), .int (nI i99), .ref 4], hC g z w (up2 a 4 v99) b)) rfl ⟨(nI_vp (by omega) (by decide)), trivial⟩ ?_
    rw [show (nI i99).toNatClampNeg = i99 from nI_clamp (by omega)]
    refine P0.b GX11_laysBack 1 (ob := [vp_in (nI i99) 6]) (cf' := (20, [some (.ref 0), some (.int (nI i99))], [], hC g z w (up2 a 4 (upd v99 (nI i99).toNatClampNeg ((b 11) i99))) b)) rfl ⟨(nI_vp (by omega) (by decide)), trivial⟩ ?_
    rw [show (nI i99).toNatClampNeg = i99 from nI_clamp (by omega)]
    refine P0.b GX11_laysBack 2 (ob := []) (cf' := (2, [some (.ref 0), some (.int ((nI i99) + 1))], [], hC g z w (up2 a 4 (upd v99 i99 ((b 11) i99))) b)) rfl trivial ?_
    rw [show (nI i99) + 1 = nI (i99 + 1) from nI_add _ _]
    exact hk99 _ (upd v99 i99 ((b 11) i99)) rfl (by rw [hI99]; exact cpN_s)
  · show P0 _ _ _ _ (2, [some (.ref 0), some (.int 6)], [], hC g z w (up2 a 4 v99) b) _
    refine P0.b GX11_laysBack 3 (ob := []) (cf' := (if (6 : Int32) ≤ 6 then 26 else 8, [some (.ref 0), some (.int 6)], [], hC g z w (up2 a 4 v99) b)) rfl trivial ?_
    rw [if_pos (show ((6 : Int32) ≤ 6) from by decide)]
    exact P0.rv (by decide +kernel) rfl ⟨rfl, by rw [hI99]⟩
theorem e_laysBack {g z : Nat → Int32} {w : Int64} {a b : Nat → Nat → Int32} {d x K D : Nat → Int32} (hb : b 11 = K) (hK : K = cpN (a 4) x 6) (hD : D = cpN d (a 4) 6) : P0 0 0 0 mX11_laysBack (0, ent 2 [.ref 0], [], hC g z w (up2 a 4 D) b) (fun r h' => r = none ∧ h' = hC g z w a b) := by
  have := e_laysBack0 (g := g) (z := z) (w := w) (a := up2 a 4 D) (b := b)
  rw [hb, up2_s, up2_two, hK, hD, cpN_back, up2_self, ← hD] at this
  exact this
theorem e_sentSet {g z : Nat → Int32} {w : Int64} {a b : Nat → Nat → Int32} {m : Nat} (hm : g 11 = nI m) (hm6 : m ≤ 6) {r6 : Nat → Int32} (h6 : a 6 = r6) : P0 0 0 0 mX11_sentSet (0, ent 3 [.ref 0], [], hC g z w a b) (fun r h' => r = some (.int (sentV r6 m)) ∧ h' = hC g z w a b) := by
  subst h6; exact e_X11_sentSet hm hm6
theorem e_sure2 {g z : Nat → Int32} {w : Int64} {a b : Nat → Nat → Int32} {m : Nat} (hm : g 11 = nI m) (hm6 : m ≤ 6) {R r6 : Nat → Int32} (h : b 8 = R) (h6 : a 6 = r6) : P0 2 0 0 mX11_sure (0, ent 3 [.ref 0], [], hC g z w a b) (fun r h' => r = some (.int (sureV R (sentV r6 m))) ∧ h' = hC g z w a b) := by
  subst h6; exact e_sure hm hm6 h
set_option maxHeartbeats 1000000 in
theorem e_X11_drawn {g z : Nat → Int32} {w : Int64} {a b : Nat → Nat → Int32} {t m : Nat} (hr : g 4 = nI t) (hS : Std1 a t) (hm : g 11 = nI m) (hm6 : m ≤ 6) (hW : ∀ i, i < m → WOK a (nI i)) (seed : Int32) : P0 47 0 0 mX11_drawn (0, ent 3 [.ref 0, .int seed], [], hC g z w a b) (fun r h' => ∃ z' w' b', r = some (.int (livV (gat0 (up2 a 4 (cpN (drD seed) (a 4) 6)) t (g 7) m) (sentV (a 6) m))) ∧ h' = hC g z' w' a b') := by
  refine P0.b GX11_drawn 2 (ob := []) (cf' := (2, [some (.ref 0), some (.int seed), none], [.int seed, .ref 0], hC g z w a b)) rfl trivial ?_
  refine P0.cs (as := [.ref 0, .int seed]) (rest := []) GX11_draws kX11_drawn_2 rfl ⟨_, _, rfl, rfl, .inl ⟨_, _, _, _, rfl, rfl⟩⟩ (Nat.le_of_ble_eq_true rfl) (Nat.le_of_ble_eq_true rfl) (P0.mono (e_draws hr hS hm hm6 hW seed) (Nat.le_of_ble_eq_true rfl) (Nat.zero_le _) (Nat.zero_le _) (fun _ _ q => q)) (Nat.le_of_ble_eq_true rfl) (fun _ _ ⟨_, _, _, _, _, _, q⟩ => q ▸ rfl) ?_
  rintro _ _ ⟨z100, w100, T, R, hR, rfl, rfl⟩
  obtain ⟨K, hK⟩ : ∃ K, K = cpN (a 4) (b 11) 6 := ⟨_, rfl⟩
  obtain ⟨D, hD⟩ : ∃ D, D = cpN (drD seed) (a 4) 6 := ⟨_, rfl⟩
  rw [← hD, ← hK]
  rw [← hD] at hR
  show P0 _ _ _ _ (5, [some (.ref 0), some (.int seed), none], [], hC g z100 w100 (up2 a 4 D) (up2 (up2 (up2 b 11 K) 7 T) 8 R)) _
  refine P0.b GX11_drawn 2 (ob := []) (cf' := (7, [some (.ref 0), some (.int seed), none], [.ref 0, .ref 0], hC g z100 w100 (up2 a 4 D) (up2 (up2 (up2 b 11 K) 7 T) 8 R))) rfl trivial ?_
  refine P0.cd (d0 := 0) (as := [.ref 0]) (rest := [.ref 0]) (r1 := some (.int (sentV (a 6) m))) (h1 := hC g z100 w100 (up2 a 4 D) (up2 (up2 (up2 b 11 K) 7 T) 8 R)) (st' := [.int (sentV (a 6) m), .ref 0]) GX11_sentSet kX11_drawn_7 rfl ⟨_, _, rfl, rfl, .inl ⟨_, _, _, _, rfl, rfl⟩⟩ (Nat.le_of_ble_eq_true rfl) (Nat.le_of_ble_eq_true rfl) (e_sentSet hm hm6 ((up2_n (by decide)).trans rfl)) (Nat.le_of_ble_eq_true rfl) rfl (Nat.le_of_ble_eq_true rfl) rfl ?_
  refine P0.cd (d0 := 0) (as := [.ref 0, .int (sentV (a 6) m)]) (rest := []) (r1 := some (.int (livV R (sentV (a 6) m)))) (h1 := hC g z100 w100 (up2 a 4 D) (up2 (up2 (up2 b 11 K) 7 T) 8 R)) (st' := [.int (livV R (sentV (a 6) m))]) GX11_livesBy kX11_drawn_10 rfl ⟨_, _, rfl, rfl, .inl ⟨_, _, _, _, rfl, rfl⟩⟩ (Nat.le_of_ble_eq_true rfl) (Nat.le_of_ble_eq_true rfl) (e_livesBy up2_s (sentV (a 6) m)) (Nat.le_of_ble_eq_true rfl) rfl (Nat.le_of_ble_eq_true rfl) rfl ?_
  refine P0.b GX11_drawn 2 (ob := []) (cf' := (15, [some (.ref 0), some (.int seed), some (.int (livV R (sentV (a 6) m)))], [.ref 0], hC g z100 w100 (up2 a 4 D) (up2 (up2 (up2 b 11 K) 7 T) 8 R))) rfl trivial ?_
  refine P0.cd (d0 := 0) (as := [.ref 0]) (rest := []) (r1 := none) (h1 := hC g z100 w100 a (up2 (up2 (up2 b 11 K) 7 T) 8 R)) (st' := []) GX11_laysBack kX11_drawn_15 rfl ⟨_, _, rfl, rfl, .inl ⟨_, _, _, _, rfl, rfl⟩⟩ (Nat.le_of_ble_eq_true rfl) (Nat.le_of_ble_eq_true rfl) (e_laysBack ((up2_n (by decide)).trans ((up2_n (by decide)).trans up2_s)) hK hD) (Nat.le_of_ble_eq_true rfl) rfl (Nat.le_of_ble_eq_true rfl) rfl ?_
  refine P0.b GX11_drawn 1 (ob := []) (cf' := (19, [some (.ref 0), some (.int seed), some (.int (livV R (sentV (a 6) m)))], [.int (livV R (sentV (a 6) m))], hC g z100 w100 a (up2 (up2 (up2 b 11 K) 7 T) 8 R))) rfl trivial ?_
  exact P0.ri (by decide +kernel) rfl rfl ⟨_, _, _, (by rw [hR, hD, liv0 hm6]), rfl⟩
