/-! ===== laid by program (wip/tools) ===== -/
theorem row_in {i j : Nat} (hi : i < 6) (hj : j < 3) : vp_in (3 * nI i + nI j) 18 := by
  rw [show (3 : Int32) * nI i = nI (3 * i) from (Int32.ofNat_mul 3 i).symm, nI_add]
  exact nI_vp (by omega) (by decide)
def sentF (f : Nat → Int32) : Nat → Int32 → Int32 := fun x v => v ||| (f (3 * nI x + 2).toNatClampNeg <<< (nI x &&& 31))
def sentV (f : Nat → Int32) (m : Nat) : Int32 := it (sentF f) m 0
def livF (R : Nat → Int32) (set : Int32) : Nat → Int32 → Int32 := fun l n => n + (if R (nI l).toNatClampNeg &&& set = set then 1 else 0)
def livV (R : Nat → Int32) (set : Int32) : Int32 := it (livF R set) 4096 0
def canF (R : Nat → Int32) (s set : Int32) : Nat → Int32 → Int32 := fun l v => v ||| (if R (nI l).toNatClampNeg &&& set = set then 1 <<< (doV (nI l) s &&& 31) else 0)
def canV (R : Nat → Int32) (s set : Int32) : Int32 := it (canF R s set) 4096 0
theorem or64 : ∀ v, v < 64 → nI v ||| 0 = nI v ∧ ∀ k, k < 4 → v ||| 2 ^ k < 64 ∧ nI v ||| (1 <<< (nI k &&& 31)) = nI (v ||| 2 ^ k) := by decide +kernel
theorem canV_lt (R : Nat → Int32) (s set : Int32) : ∃ v, v < 64 ∧ canV R s set = nI v := by
  refine it_inv (P := fun _ x => ∃ v, v < 64 ∧ x = nI v) ⟨0, by decide, nI_0.symm⟩ 4096 ?_
  rintro l _ _ ⟨v, hv, rfl⟩
  unfold canF
  split
  · obtain ⟨k, hk, h⟩ := doV_lt (nI l) s
    rw [h]
    exact ⟨_, ((or64 v hv).2 k hk).1, ((or64 v hv).2 k hk).2⟩
  · exact ⟨v, hv, (or64 v hv).1⟩
theorem canV_zz (R : Nat → Int32) (s set : Int32) : zz 7 (canV R s set) = true := by
  obtain ⟨v, hv, h⟩ := canV_lt R s set
  rw [h]
  exact zz_64 v hv
def sureF (R : Nat → Int32) (set : Int32) : Nat → Int32 → Int32 := fun s v => v ||| ((if kb 7 (canV R (nI s) set) = 1 then 1 else 0) <<< (nI s &&& 31))
def sureV (R : Nat → Int32) (set : Int32) : Int32 := it (sureF R set) 6 0
def costF (a : Nat → Nat → Int32) (t : Nat) (age set : Int32) : Nat → Int32 → Int32 := fun x v => v + (if (set >>> (nI x &&& 31)) &&& 1 = 1 then costV a t age (nI x) else 0)
def costsV (a : Nat → Nat → Int32) (t : Nat) (age : Int32) (m : Nat) (set : Int32) : Int32 := it (costF a t age set) m 0
def valF (f : Nat → Int32) (l : Int32) : Nat → Int32 → Int32 := fun s v => v + f (16 * nI s + 4 * lastV l (nI s) + doV l (nI s)).toNatClampNeg
def valV (f : Nat → Int32) (l : Int32) : Int32 := it (valF f l) 6 0
theorem val_nI {s l d : Nat} (hs : s < 6) (hl : l < 4) (hd : d < 4) : vp_in (16 * nI s + 4 * nI l + nI d) 96 := by
  rw [show (16 : Int32) * nI s = nI (16 * s) from (Int32.ofNat_mul 16 s).symm, show (4 : Int32) * nI l = nI (4 * l) from (Int32.ofNat_mul 4 l).symm, nI_add, nI_add]
  exact nI_vp (by omega) (by decide)
theorem val_in {s : Nat} (hs : s < 6) (l : Int32) : vp_in (16 * nI s + 4 * lastV l (nI s) + doV l (nI s)) 96 := by
  obtain ⟨d, hd, h1⟩ := doV_lt l (nI s)
  obtain ⟨p, hp, h2⟩ := lastV_lt l (nI s)
  rw [h1, h2]
  exact val_nI hs hp hd
set_option maxHeartbeats 300000 in
theorem e_X11_sentSet {g z : Nat → Int32} {w : Int64} {a b : Nat → Nat → Int32} {m : Nat} (hm : g 11 = nI m) (hm6 : m ≤ 6) : P0 0 0 0 mX11_sentSet (0, ent 3 [.ref 0], [], hC g z w a b) (fun r h' => r = some (.int (sentV (a 6) m)) ∧ h' = hC g z w a b) := by
  refine P0.b GX11_sentSet 4 (ob := []) (cf' := (4, [some (.ref 0), some (.int 0), some (.int 0)], [], hC g z w a b)) rfl trivial ?_
  refine P0.loop (N := m) (sentF (a 6)) 0 (fun x20 v20 => (4, [some (.ref 0), some (.int v20), some (.int x20)], [], hC g z w a b)) (fun i20 hi20 hk20 => ?_) ?_ 0 0 nI_0.symm rfl
  · show P0 _ _ _ _ (4, [some (.ref 0), some (.int (it (sentF (a 6)) i20 0)), some (.int (nI i20))], [], hC g z w a b) _
    refine P0.b GX11_sentSet 4 (ob := []) (cf' := (if g 11 ≤ nI i20 then 33 else 12, [some (.ref 0), some (.int (it (sentF (a 6)) i20 0)), some (.int (nI i20))], [], hC g z w a b)) rfl trivial ?_
    rw [if_neg (show ¬ (g 11 ≤ nI i20) from by rw [hm]; exact nI_ge hi20 (by omega))]
    refine P0.b GX11_sentSet 15 (ob := [vp_in ((3 * (nI i20)) + 2) 18]) (cf' := (4, [some (.ref 0), some (.int ((it (sentF (a 6)) i20 0) ||| (((a 6) ((3 * (nI i20)) + 2).toNatClampNeg) <<< ((nI i20) &&& 31)))), some (.int ((nI i20) + 1))], [], hC g z w a b)) rfl ⟨(row_in (j := 2) (Nat.lt_of_lt_of_le (by assumption) hm6) (by decide)), trivial⟩ ?_
    exact hk20 _ ((it (sentF (a 6)) i20 0) ||| (((a 6) ((3 * (nI i20)) + 2).toNatClampNeg) <<< ((nI i20) &&& 31))) (nI_1 _) rfl
  · show P0 _ _ _ _ (4, [some (.ref 0), some (.int (it (sentF (a 6)) m 0)), some (.int (nI m))], [], hC g z w a b) _
    refine P0.b GX11_sentSet 4 (ob := []) (cf' := (if g 11 ≤ nI m then 33 else 12, [some (.ref 0), some (.int (it (sentF (a 6)) m 0)), some (.int (nI m))], [], hC g z w a b)) rfl trivial ?_
    rw [if_pos (show g 11 ≤ nI m from by rw [hm]; exact Int32.le_refl _)]
    refine P0.b GX11_sentSet 1 (ob := []) (cf' := (34, [some (.ref 0), some (.int (it (sentF (a 6)) m 0)), some (.int (nI m))], [.int (it (sentF (a 6)) m 0)], hC g z w a b)) rfl trivial ?_
    exact P0.ri (by decide +kernel) rfl rfl ⟨rfl, rfl⟩
set_option maxHeartbeats 300000 in
theorem e_X11_livesBy {g z : Nat → Int32} {w : Int64} {a b : Nat → Nat → Int32} (set : Int32) : P0 0 0 0 mX11_livesBy (0, ent 4 [.ref 0, .int set], [], hC g z w a b) (fun r h' => r = some (.int (livV (b 8) set)) ∧ h' = hC g z w a b) := by
  refine P0.b GX11_livesBy 4 (ob := []) (cf' := (4, [some (.ref 0), some (.int set), some (.int 0), some (.int 0)], [], hC g z w a b)) rfl trivial ?_
  refine P0.loop (N := 4096) (livF (b 8) set) 0 (fun x21 v21 => (4, [some (.ref 0), some (.int set), some (.int v21), some (.int x21)], [], hC g z w a b)) (fun i21 hi21 hk21 => ?_) ?_ 0 0 nI_0.symm rfl
  · show P0 _ _ _ _ (4, [some (.ref 0), some (.int set), some (.int (it (livF (b 8) set) i21 0)), some (.int (nI i21))], [], hC g z w a b) _
    refine P0.b GX11_livesBy 3 (ob := []) (cf' := (if 4096 ≤ nI i21 then 37 else 11, [some (.ref 0), some (.int set), some (.int (it (livF (b 8) set) i21 0)), some (.int (nI i21))], [], hC g z w a b)) rfl trivial ?_
    rw [if_neg (show ¬ (4096 ≤ nI i21) from nI_ge hi21 (by decide))]
    refine P0.b GX11_livesBy 9 (ob := [vp_in (nI i21) 4096]) (cf' := (if ((b 8) (nI i21).toNatClampNeg) &&& set = set then 24 else 28, [some (.ref 0), some (.int set), some (.int (it (livF (b 8) set) i21 0)), some (.int (nI i21))], [.int (it (livF (b 8) set) i21 0)], hC g z w a b)) rfl ⟨(nI_vp (by assumption) (by decide)), trivial⟩ ?_
    refine P0.if (fun h1 => ?_) (fun h1 => ?_)
    · refine P0.b GX11_livesBy 6 (ob := []) (cf' := (4, [some (.ref 0), some (.int set), some (.int ((it (livF (b 8) set) i21 0) + 1)), some (.int ((nI i21) + 1))], [], hC g z w a b)) rfl trivial ?_
      exact hk21 _ ((it (livF (b 8) set) i21 0) + 1) (nI_1 _) (by unfold livF; rw [if_pos h1])
    · refine P0.b GX11_livesBy 5 (ob := []) (cf' := (4, [some (.ref 0), some (.int set), some (.int ((it (livF (b 8) set) i21 0) + 0)), some (.int ((nI i21) + 1))], [], hC g z w a b)) rfl trivial ?_
      exact hk21 _ ((it (livF (b 8) set) i21 0) + 0) (nI_1 _) (by unfold livF; rw [if_neg h1])
  · show P0 _ _ _ _ (4, [some (.ref 0), some (.int set), some (.int (it (livF (b 8) set) 4096 0)), some (.int 4096)], [], hC g z w a b) _
    refine P0.b GX11_livesBy 4 (ob := []) (cf' := (38, [some (.ref 0), some (.int set), some (.int (it (livF (b 8) set) 4096 0)), some (.int 4096)], [.int (it (livF (b 8) set) 4096 0)], hC g z w a b)) rfl trivial ?_
    exact P0.ri (by decide +kernel) rfl rfl ⟨rfl, rfl⟩
set_option maxHeartbeats 300000 in
theorem e_X11_canBeBy {g z : Nat → Int32} {w : Int64} {a b : Nat → Nat → Int32} (s set : Int32) : P0 1 0 0 mX11_canBeBy (0, ent 5 [.ref 0, .int s, .int set], [], hC g z w a b) (fun r h' => r = some (.int (canV (b 8) s set)) ∧ h' = hC g z w a b) := by
  refine P0.b GX11_canBeBy 4 (ob := []) (cf' := (5, [some (.ref 0), some (.int s), some (.int set), some (.int 0), some (.int 0)], [], hC g z w a b)) rfl trivial ?_
  refine P0.loop (N := 4096) (canF (b 8) s set) 0 (fun x22 v22 => (5, [some (.ref 0), some (.int s), some (.int set), some (.int v22), some (.int x22)], [], hC g z w a b)) (fun i22 hi22 hk22 => ?_) ?_ 0 0 nI_0.symm rfl
  · show P0 _ _ _ _ (5, [some (.ref 0), some (.int s), some (.int set), some (.int (it (canF (b 8) s set) i22 0)), some (.int (nI i22))], [], hC g z w a b) _
    refine P0.b GX11_canBeBy 3 (ob := []) (cf' := (if 4096 ≤ nI i22 then 47 else 13, [some (.ref 0), some (.int s), some (.int set), some (.int (it (canF (b 8) s set) i22 0)), some (.int (nI i22))], [], hC g z w a b)) rfl trivial ?_
    rw [if_neg (show ¬ (4096 ≤ nI i22) from nI_ge hi22 (by decide))]
    refine P0.b GX11_canBeBy 9 (ob := [vp_in (nI i22) 4096]) (cf' := (if ((b 8) (nI i22).toNatClampNeg) &&& set = set then 27 else 38, [some (.ref 0), some (.int s), some (.int set), some (.int (it (canF (b 8) s set) i22 0)), some (.int (nI i22))], [.int (it (canF (b 8) s set) i22 0)], hC g z w a b)) rfl ⟨(nI_vp (by assumption) (by decide)), trivial⟩ ?_
    refine P0.if (fun h1 => ?_) (fun h1 => ?_)
    · refine P0.b GX11_canBeBy 3 (ob := []) (cf' := (31, [some (.ref 0), some (.int s), some (.int set), some (.int (it (canF (b 8) s set) i22 0)), some (.int (nI i22))], [.int s, .int (nI i22), .int 1, .int (it (canF (b 8) s set) i22 0)], hC g z w a b)) rfl trivial ?_
      refine P0.cr (io := []) (as := [.int (nI i22), .int s]) (rest := [.int 1, .int (it (canF (b 8) s set) i22 0)]) (hc := []) (hc1 := []) (r1 := some (.int (doV (nI i22) s))) (st' := [.int (doV (nI i22) s), .int 1, .int (it (canF (b 8) s set) i22 0)]) (h' := hC g z w a b) (d0 := 0) GX11_doing kX11_canBeBy_31 rfl rfl (Nat.le_of_ble_eq_true rfl) (Nat.le_of_ble_eq_true rfl) rfl trivial (e_X11_doing (nI i22) s) (Nat.le_of_ble_eq_true rfl) rfl (Nat.le_of_ble_eq_true rfl) (Nat.le_of_ble_eq_true rfl) rfl rfl ?_
      refine P0.b GX11_canBeBy 6 (ob := []) (cf' := (5, [some (.ref 0), some (.int s), some (.int set), some (.int ((it (canF (b 8) s set) i22 0) ||| (1 <<< ((doV (nI i22) s) &&& 31)))), some (.int ((nI i22) + 1))], [], hC g z w a b)) rfl trivial ?_
      exact hk22 _ ((it (canF (b 8) s set) i22 0) ||| (1 <<< ((doV (nI i22) s) &&& 31))) (nI_1 _) (by unfold canF; rw [if_pos h1])
    · refine P0.b GX11_canBeBy 5 (ob := []) (cf' := (5, [some (.ref 0), some (.int s), some (.int set), some (.int ((it (canF (b 8) s set) i22 0) ||| 0)), some (.int ((nI i22) + 1))], [], hC g z w a b)) rfl trivial ?_
      exact hk22 _ ((it (canF (b 8) s set) i22 0) ||| 0) (nI_1 _) (by unfold canF; rw [if_neg h1])
  · show P0 _ _ _ _ (5, [some (.ref 0), some (.int s), some (.int set), some (.int (it (canF (b 8) s set) 4096 0)), some (.int 4096)], [], hC g z w a b) _
    refine P0.b GX11_canBeBy 4 (ob := []) (cf' := (48, [some (.ref 0), some (.int s), some (.int set), some (.int (it (canF (b 8) s set) 4096 0)), some (.int 4096)], [.int (it (canF (b 8) s set) 4096 0)], hC g z w a b)) rfl trivial ?_
    exact P0.ri (by decide +kernel) rfl rfl ⟨rfl, rfl⟩
set_option maxHeartbeats 300000 in
theorem e_X11_sure {g z : Nat → Int32} {w : Int64} {a b : Nat → Nat → Int32} {m : Nat} (hm : g 11 = nI m) (hm6 : m ≤ 6) : P0 2 0 0 mX11_sure (0, ent 3 [.ref 0], [], hC g z w a b) (fun r h' => r = some (.int (sureV (b 8) (sentV (a 6) m))) ∧ h' = hC g z w a b) := by
  refine P0.b GX11_sure 4 (ob := []) (cf' := (4, [some (.ref 0), some (.int 0), some (.int 0)], [], hC g z w a b)) rfl trivial ?_
  refine P0.loop (N := 6) (sureF (b 8) (sentV (a 6) m)) 0 (fun x23 v23 => (4, [some (.ref 0), some (.int v23), some (.int x23)], [], hC g z w a b)) (fun i23 hi23 hk23 => ?_) ?_ 0 0 nI_0.symm rfl
  · show P0 _ _ _ _ (4, [some (.ref 0), some (.int (it (sureF (b 8) (sentV (a 6) m)) i23 0)), some (.int (nI i23))], [], hC g z w a b) _
    refine P0.b GX11_sure 3 (ob := []) (cf' := (if 6 ≤ nI i23 then 42 else 10, [some (.ref 0), some (.int (it (sureF (b 8) (sentV (a 6) m)) i23 0)), some (.int (nI i23))], [], hC g z w a b)) rfl trivial ?_
    rw [if_neg (show ¬ (6 ≤ nI i23) from nI_ge hi23 (by decide))]
    refine P0.b GX11_sure 4 (ob := []) (cf' := (14, [some (.ref 0), some (.int (it (sureF (b 8) (sentV (a 6) m)) i23 0)), some (.int (nI i23))], [.ref 0, .int (nI i23), .ref 0, .int (it (sureF (b 8) (sentV (a 6) m)) i23 0)], hC g z w a b)) rfl trivial ?_
    refine P0.cd (d0 := 0) (as := [.ref 0]) (rest := [.int (nI i23), .ref 0, .int (it (sureF (b 8) (sentV (a 6) m)) i23 0)]) (r1 := some (.int (sentV (a 6) m))) (h1 := hC g z w a b) (st' := [.int (sentV (a 6) m), .int (nI i23), .ref 0, .int (it (sureF (b 8) (sentV (a 6) m)) i23 0)]) GX11_sentSet kX11_sure_14 rfl ⟨_, _, rfl, rfl, .inl ⟨_, _, _, _, rfl, rfl⟩⟩ (Nat.le_of_ble_eq_true rfl) (Nat.le_of_ble_eq_true rfl) (e_X11_sentSet hm hm6) (Nat.le_of_ble_eq_true rfl) rfl (Nat.le_of_ble_eq_true rfl) rfl ?_
    refine P0.cd (d0 := 1) (as := [.ref 0, .int (nI i23), .int (sentV (a 6) m)]) (rest := [.int (it (sureF (b 8) (sentV (a 6) m)) i23 0)]) (r1 := some (.int (canV (b 8) (nI i23) (sentV (a 6) m)))) (h1 := hC g z w a b) (st' := [.int (canV (b 8) (nI i23) (sentV (a 6) m)), .int (it (sureF (b 8) (sentV (a 6) m)) i23 0)]) GX11_canBeBy kX11_sure_17 rfl ⟨_, _, rfl, rfl, .inl ⟨_, _, _, _, rfl, rfl⟩⟩ (Nat.le_of_ble_eq_true rfl) (Nat.le_of_ble_eq_true rfl) (e_X11_canBeBy (nI i23) (sentV (a 6) m)) (Nat.le_of_ble_eq_true rfl) rfl (Nat.le_of_ble_eq_true rfl) rfl ?_
    refine P0.cr (io := []) (as := [.int (canV (b 8) (nI i23) (sentV (a 6) m))]) (rest := [.int (it (sureF (b 8) (sentV (a 6) m)) i23 0)]) (hc := []) (hc1 := []) (r1 := some (.int (kb 7 (canV (b 8) (nI i23) (sentV (a 6) m))))) (st' := [.int (kb 7 (canV (b 8) (nI i23) (sentV (a 6) m))), .int (it (sureF (b 8) (sentV (a 6) m)) i23 0)]) (h' := hC g z w a b) (d0 := 0) GX11_bitsOf kX11_sure_20 rfl rfl (Nat.le_of_ble_eq_true rfl) (Nat.le_of_ble_eq_true rfl) rfl trivial (e_X11_bitsOf (canV_zz _ _ _)) (Nat.zero_le _) rfl (Nat.le_of_ble_eq_true rfl) (Nat.le_of_ble_eq_true rfl) rfl rfl ?_
    refine P0.b GX11_sure 2 (ob := []) (cf' := (if kb 7 (canV (b 8) (nI i23) (sentV (a 6) m)) = 1 then 27 else 31, [some (.ref 0), some (.int (it (sureF (b 8) (sentV (a 6) m)) i23 0)), some (.int (nI i23))], [.int (it (sureF (b 8) (sentV (a 6) m)) i23 0)], hC g z w a b)) rfl trivial ?_
    refine P0.if (fun h1 => ?_) (fun h1 => ?_)
    · refine P0.b GX11_sure 8 (ob := []) (cf' := (4, [some (.ref 0), some (.int ((it (sureF (b 8) (sentV (a 6) m)) i23 0) ||| (1 <<< ((nI i23) &&& 31)))), some (.int ((nI i23) + 1))], [], hC g z w a b)) rfl trivial ?_
      exact hk23 _ ((it (sureF (b 8) (sentV (a 6) m)) i23 0) ||| (1 <<< ((nI i23) &&& 31))) (nI_1 _) (by unfold sureF; rw [if_pos h1])
    · refine P0.b GX11_sure 7 (ob := []) (cf' := (4, [some (.ref 0), some (.int ((it (sureF (b 8) (sentV (a 6) m)) i23 0) ||| (0 <<< ((nI i23) &&& 31)))), some (.int ((nI i23) + 1))], [], hC g z w a b)) rfl trivial ?_
      exact hk23 _ ((it (sureF (b 8) (sentV (a 6) m)) i23 0) ||| (0 <<< ((nI i23) &&& 31))) (nI_1 _) (by unfold sureF; rw [if_neg h1])
  · show P0 _ _ _ _ (4, [some (.ref 0), some (.int (it (sureF (b 8) (sentV (a 6) m)) 6 0)), some (.int 6)], [], hC g z w a b) _
    refine P0.b GX11_sure 4 (ob := []) (cf' := (43, [some (.ref 0), some (.int (it (sureF (b 8) (sentV (a 6) m)) 6 0)), some (.int 6)], [.int (it (sureF (b 8) (sentV (a 6) m)) 6 0)], hC g z w a b)) rfl trivial ?_
    exact P0.ri (by decide +kernel) rfl rfl ⟨rfl, rfl⟩
set_option maxHeartbeats 300000 in
theorem e_X11_valueOf {g z : Nat → Int32} {w : Int64} {a b : Nat → Nat → Int32} (l : Int32) : P0 2 0 0 mX11_valueOf (0, ent 4 [.ref 0, .int l], [], hC g z w a b) (fun r h' => r = some (.int (valV (b 9) l)) ∧ h' = hC g z w a b) := by
  refine P0.b GX11_valueOf 4 (ob := []) (cf' := (4, [some (.ref 0), some (.int l), some (.int 0), some (.int 0)], [], hC g z w a b)) rfl trivial ?_
  refine P0.loop (N := 6) (valF (b 9) l) 0 (fun x24 v24 => (4, [some (.ref 0), some (.int l), some (.int v24), some (.int x24)], [], hC g z w a b)) (fun i24 hi24 hk24 => ?_) ?_ 0 0 nI_0.symm rfl
  · show P0 _ _ _ _ (4, [some (.ref 0), some (.int l), some (.int (it (valF (b 9) l) i24 0)), some (.int (nI i24))], [], hC g z w a b) _
    refine P0.b GX11_valueOf 3 (ob := []) (cf' := (if 6 ≤ nI i24 then 42 else 10, [some (.ref 0), some (.int l), some (.int (it (valF (b 9) l) i24 0)), some (.int (nI i24))], [], hC g z w a b)) rfl trivial ?_
    rw [if_neg (show ¬ (6 ≤ nI i24) from nI_ge hi24 (by decide))]
    refine P0.b GX11_valueOf 9 (ob := []) (cf' := (22, [some (.ref 0), some (.int l), some (.int (it (valF (b 9) l) i24 0)), some (.int (nI i24))], [.int (nI i24), .int l, .int 4, .int (16 * (nI i24)), .ref 9, .int (it (valF (b 9) l) i24 0)], hC g z w a b)) rfl trivial ?_
    refine P0.cr (io := []) (as := [.int l, .int (nI i24)]) (rest := [.int 4, .int (16 * (nI i24)), .ref 9, .int (it (valF (b 9) l) i24 0)]) (hc := []) (hc1 := []) (r1 := some (.int (lastV l (nI i24)))) (st' := [.int (lastV l (nI i24)), .int 4, .int (16 * (nI i24)), .ref 9, .int (it (valF (b 9) l) i24 0)]) (h' := hC g z w a b) (d0 := 1) GX11_lastOf kX11_valueOf_22 rfl rfl (Nat.le_of_ble_eq_true rfl) (Nat.le_of_ble_eq_true rfl) rfl trivial (e_X11_lastOf l (nI i24)) (Nat.le_of_ble_eq_true rfl) rfl (Nat.le_of_ble_eq_true rfl) (Nat.le_of_ble_eq_true rfl) rfl rfl ?_
    refine P0.b GX11_valueOf 4 (ob := []) (cf' := (29, [some (.ref 0), some (.int l), some (.int (it (valF (b 9) l) i24 0)), some (.int (nI i24))], [.int (nI i24), .int l, .int ((16 * (nI i24)) + (4 * (lastV l (nI i24)))), .ref 9, .int (it (valF (b 9) l) i24 0)], hC g z w a b)) rfl trivial ?_
    refine P0.cr (io := []) (as := [.int l, .int (nI i24)]) (rest := [.int ((16 * (nI i24)) + (4 * (lastV l (nI i24)))), .ref 9, .int (it (valF (b 9) l) i24 0)]) (hc := []) (hc1 := []) (r1 := some (.int (doV l (nI i24)))) (st' := [.int (doV l (nI i24)), .int ((16 * (nI i24)) + (4 * (lastV l (nI i24)))), .ref 9, .int (it (valF (b 9) l) i24 0)]) (h' := hC g z w a b) (d0 := 0) GX11_doing kX11_valueOf_29 rfl rfl (Nat.le_of_ble_eq_true rfl) (Nat.le_of_ble_eq_true rfl) rfl trivial (e_X11_doing l (nI i24)) (Nat.le_of_ble_eq_true rfl) rfl (Nat.le_of_ble_eq_true rfl) (Nat.le_of_ble_eq_true rfl) rfl rfl ?_
    refine P0.b GX11_valueOf 6 (ob := [vp_in (((16 * (nI i24)) + (4 * (lastV l (nI i24)))) + (doV l (nI i24))) 96]) (cf' := (4, [some (.ref 0), some (.int l), some (.int ((it (valF (b 9) l) i24 0) + ((b 9) (((16 * (nI i24)) + (4 * (lastV l (nI i24)))) + (doV l (nI i24))).toNatClampNeg))), some (.int ((nI i24) + 1))], [], hC g z w a b)) rfl ⟨(val_in (by assumption) _), trivial⟩ ?_
    exact hk24 _ ((it (valF (b 9) l) i24 0) + ((b 9) (((16 * (nI i24)) + (4 * (lastV l (nI i24)))) + (doV l (nI i24))).toNatClampNeg)) (nI_1 _) rfl
  · show P0 _ _ _ _ (4, [some (.ref 0), some (.int l), some (.int (it (valF (b 9) l) 6 0)), some (.int 6)], [], hC g z w a b) _
    refine P0.b GX11_valueOf 4 (ob := []) (cf' := (43, [some (.ref 0), some (.int l), some (.int (it (valF (b 9) l) 6 0)), some (.int 6)], [.int (it (valF (b 9) l) 6 0)], hC g z w a b)) rfl trivial ?_
    exact P0.ri (by decide +kernel) rfl rfl ⟨rfl, rfl⟩
set_option maxHeartbeats 300000 in
theorem e_X11_costsBy {g z : Nat → Int32} {w : Int64} {a b : Nat → Nat → Int32} {t m : Nat} (hr : g 4 = nI t) (hS : Std1 a t) (hm : g 11 = nI m) (hm6 : m ≤ 6) (hW : ∀ i, i < m → WOK a (nI i)) (set : Int32) : P0 44 0 0 mX11_costsBy (0, ent 4 [.ref 0, .int set], [], hC g z w a b) (fun r h' => ∃ z' w', r = some (.int (costsV a t (g 7) m set)) ∧ h' = hC g z' w' a b) := by
  refine P0.b GX11_costsBy 4 (ob := []) (cf' := (4, [some (.ref 0), some (.int set), some (.int 0), some (.int 0)], [], hC g z w a b)) rfl trivial ?_
  refine P0.loopZ (N := m) (costF a t (g 7) set) 0 (fun x25 v25 z25 w25 => (4, [some (.ref 0), some (.int set), some (.int v25), some (.int x25)], [], hC g z25 w25 a b)) (fun i25 hi25 z25 w25 hk25 => ?_) (fun z25 w25 => ?_) 0 0 z w nI_0.symm rfl
  · show P0 _ _ _ _ (4, [some (.ref 0), some (.int set), some (.int (it (costF a t (g 7) set) i25 0)), some (.int (nI i25))], [], hC g z25 w25 a b) _
    refine P0.b GX11_costsBy 4 (ob := []) (cf' := (if g 11 ≤ nI i25 then 39 else 12, [some (.ref 0), some (.int set), some (.int (it (costF a t (g 7) set) i25 0)), some (.int (nI i25))], [], hC g z25 w25 a b)) rfl trivial ?_
    rw [if_neg (show ¬ (g 11 ≤ nI i25) from by rw [hm]; exact nI_ge hi25 (by omega))]
    refine P0.b GX11_costsBy 8 (ob := []) (cf' := (if (set >>> ((nI i25) &&& 31)) &&& 1 = 1 then 22 else 30, [some (.ref 0), some (.int set), some (.int (it (costF a t (g 7) set) i25 0)), some (.int (nI i25))], [.int (it (costF a t (g 7) set) i25 0)], hC g z25 w25 a b)) rfl trivial ?_
    refine P0.if (fun h1 => ?_) (fun h1 => ?_)
    · refine P0.b GX11_costsBy 2 (ob := []) (cf' := (24, [some (.ref 0), some (.int set), some (.int (it (costF a t (g 7) set) i25 0)), some (.int (nI i25))], [.int (nI i25), .ref 0, .int (it (costF a t (g 7) set) i25 0)], hC g z25 w25 a b)) rfl trivial ?_
      refine P0.cs (as := [.ref 0, .int (nI i25)]) (rest := [.int (it (costF a t (g 7) set) i25 0)]) GX11_costsOf kX11_costsBy_24 rfl ⟨_, _, rfl, rfl, .inl ⟨_, _, _, _, rfl, rfl⟩⟩ (Nat.le_of_ble_eq_true rfl) (Nat.le_of_ble_eq_true rfl) (P0.mono (e_X11_costsOf hr hS (hW _ hi25)) (Nat.le_of_ble_eq_true rfl) (Nat.zero_le _) (Nat.zero_le _) (fun _ _ q => q)) (Nat.le_of_ble_eq_true rfl) (fun _ _ ⟨_, _, _, q⟩ => q ▸ rfl) ?_
      rintro _ _ ⟨z26, w26, rfl, rfl⟩
      show P0 _ _ _ _ (27, [some (.ref 0), some (.int set), some (.int (it (costF a t (g 7) set) i25 0)), some (.int (nI i25))], [.int (costV a t (g 7) (nI i25)), .int (it (costF a t (g 7) set) i25 0)], hC g z26 w26 a b) _
      refine P0.b GX11_costsBy 5 (ob := []) (cf' := (4, [some (.ref 0), some (.int set), some (.int ((it (costF a t (g 7) set) i25 0) + (costV a t (g 7) (nI i25)))), some (.int ((nI i25) + 1))], [], hC g z26 w26 a b)) rfl trivial ?_
      exact hk25 _ ((it (costF a t (g 7) set) i25 0) + (costV a t (g 7) (nI i25))) z26 w26 (nI_1 _) (by unfold costF; rw [if_pos h1])
    · refine P0.b GX11_costsBy 5 (ob := []) (cf' := (4, [some (.ref 0), some (.int set), some (.int ((it (costF a t (g 7) set) i25 0) + 0)), some (.int ((nI i25) + 1))], [], hC g z25 w25 a b)) rfl trivial ?_
      exact hk25 _ ((it (costF a t (g 7) set) i25 0) + 0) z25 w25 (nI_1 _) (by unfold costF; rw [if_neg h1])
  · show P0 _ _ _ _ (4, [some (.ref 0), some (.int set), some (.int (it (costF a t (g 7) set) m 0)), some (.int (nI m))], [], hC g z25 w25 a b) _
    refine P0.b GX11_costsBy 4 (ob := []) (cf' := (if g 11 ≤ nI m then 39 else 12, [some (.ref 0), some (.int set), some (.int (it (costF a t (g 7) set) m 0)), some (.int (nI m))], [], hC g z25 w25 a b)) rfl trivial ?_
    rw [if_pos (show g 11 ≤ nI m from by rw [hm]; exact Int32.le_refl _)]
    refine P0.b GX11_costsBy 1 (ob := []) (cf' := (40, [some (.ref 0), some (.int set), some (.int (it (costF a t (g 7) set) m 0)), some (.int (nI m))], [.int (it (costF a t (g 7) set) m 0)], hC g z25 w25 a b)) rfl trivial ?_
    exact P0.ri (by decide +kernel) rfl rfl ⟨_, _, rfl, rfl⟩
