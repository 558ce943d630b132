/-! ===== laid by program (wip/tools) ===== -/
def allV (a : Nat → Nat → Int32) (t : Nat) (age : Int32) (m : Nat) (b : Nat → Nat → Int32) (what : Int32) : Int32 :=
  if 0 ≤ what ∧ what ≤ 5 then
    (if 3 ≤ what then (if 5 ≤ what then costsV a t age m (sentV (a 6) m) else if what = 3 then valV (vasV a t age 0 (b 9)) (lifeV (a 4)) else valV (vasV a t age 2 (b 9)) (lifeV (a 4)))
     else if what = 0 then livV (gatV a t age m (b 7) (b 8)) (sentV (a 6) m) else if what = 1 then sureV (gatV a t age m (b 7) (b 8)) (sentV (a 6) m) else kb 7 (sureV (gatV a t age m (b 7) (b 8)) (sentV (a 6) m)))
  else -100000
theorem sureV_lt (R : Nat → Int32) (set : Int32) : ∃ v, v < 64 ∧ sureV R set = nI v := by
  refine it_inv (P := fun _ x => ∃ v, v < 64 ∧ x = nI v) ⟨0, by decide, nI_0.symm⟩ 6 ?_
  rintro s _ hs ⟨v, hv, rfl⟩
  unfold sureF
  have h1 : ∀ s, s < 6 → (1 : Int32) <<< (nI s &&& 31) = nI (2 ^ s) := by decide +kernel
  have h0 : ∀ s, s < 6 → (0 : Int32) <<< (nI s &&& 31) = nI 0 := by decide +kernel
  have ho : ∀ v, v < 64 → nI v ||| nI 0 = nI v ∧ ∀ s, s < 6 → v ||| 2 ^ s < 64 ∧ nI v ||| nI (2 ^ s) = nI (v ||| 2 ^ s) := by decide +kernel
  split
  · rw [h1 s hs]; exact ⟨_, ((ho v hv).2 s hs).1, ((ho v hv).2 s hs).2⟩
  · rw [h0 s hs]; exact ⟨v, hv, (ho v hv).1⟩
theorem sureV_zz (R : Nat → Int32) (set : Int32) : zz 7 (sureV R set) = true := by
  obtain ⟨v, hv, h⟩ := sureV_lt R set
  rw [h]
  exact zz_64 v hv
set_option maxHeartbeats 1000000 in
theorem e_X11_all {g z : Nat → Int32} {w : Int64} {a b : Nat → Nat → Int32} {t m : Nat} (hr : g 4 = nI t) (hS : Std1 a t) (hm : g 11 = nI m) (hm6 : m ≤ 6) (hW : ∀ i, i < m → WOK a (nI i)) (what : Int32) : P0 46 0 0 mX11_all (0, ent 2 [.ref 0, .int what], [], hC g z w a b) (fun r h' => ∃ z' w' b', r = some (.int (allV a t (g 7) m b what)) ∧ h' = hC g z' w' a b') := by
  refine P0.b GX11_all 4 (ob := []) (cf' := (6, [some (.ref 0), some (.int what)], [.long 5, .long 0, .long what.toInt64], hC g z w a b)) rfl trivial ?_
  refine P0.cr (io := []) (as := [.long what.toInt64, .long ((0 : Int32).toInt64), .long ((5 : Int32).toInt64)]) (rest := []) (hc := []) (hc1 := []) (r1 := some (.int (if 0 ≤ what ∧ what ≤ 5 then 1 else 0))) (st' := [.int (if 0 ≤ what ∧ what ≤ 5 then 1 else 0)]) (h' := hC g z w a b) (d0 := 0) GX11_in kX11_all_6 rfl rfl (Nat.le_of_ble_eq_true rfl) (Nat.le_of_ble_eq_true rfl) rfl trivial (e_in32 what 0 5) (Nat.le_of_ble_eq_true rfl) rfl (Nat.le_of_ble_eq_true rfl) (Nat.le_of_ble_eq_true rfl) rfl rfl ?_
  refine P0.b GX11_all 1 (ob := []) (cf' := (if (if 0 ≤ what ∧ what ≤ 5 then 1 else 0) = 0 then 12 else 16, [some (.ref 0), some (.int what)], [], hC g z w a b)) rfl trivial ?_
  refine P0.ifB (fun h1 => ?_) (fun h1 => ?_)
  · refine P0.b GX11_all 1 (ob := []) (cf' := (15, [some (.ref 0), some (.int what)], [.int (-100000)], hC g z w a b)) rfl trivial ?_
    exact P0.ri (by decide +kernel) rfl rfl ⟨_, _, _, (by unfold allV; rw [if_neg h1]), rfl⟩
  · refine P0.b GX11_all 3 (ob := []) (cf' := (if 3 ≤ what then 60 else 21, [some (.ref 0), some (.int what)], [], hC g z w a b)) rfl trivial ?_
    refine P0.if (fun h2 => ?_) (fun h2 => ?_)
    · refine P0.b GX11_all 3 (ob := []) (cf' := (if 5 ≤ what then 88 else 65, [some (.ref 0), some (.int what)], [], hC g z w a b)) rfl trivial ?_
      refine P0.if (fun h3 => ?_) (fun h3 => ?_)
      · refine P0.b GX11_all 2 (ob := []) (cf' := (90, [some (.ref 0), some (.int what)], [.ref 0, .ref 0], hC g z w a b)) rfl trivial ?_
        refine P0.cd (d0 := 0) (as := [.ref 0]) (rest := [.ref 0]) (r1 := some (.int (sentV (a 6) m))) (h1 := hC g z w a b) (st' := [.int (sentV (a 6) m), .ref 0]) GX11_sentSet kX11_all_90 rfl ⟨_, _, rfl, rfl, .inl ⟨_, _, _, _, rfl, rfl⟩⟩ (Nat.le_of_ble_eq_true rfl) (Nat.le_of_ble_eq_true rfl) (e_X11_sentSet hm hm6) (Nat.le_of_ble_eq_true rfl) rfl (Nat.le_of_ble_eq_true rfl) rfl ?_
        refine P0.cs (as := [.ref 0, .int (sentV (a 6) m)]) (rest := []) GX11_costsBy kX11_all_93 rfl ⟨_, _, rfl, rfl, .inl ⟨_, _, _, _, rfl, rfl⟩⟩ (Nat.le_of_ble_eq_true rfl) (Nat.le_of_ble_eq_true rfl) (P0.mono (e_X11_costsBy hr hS hm hm6 hW (sentV (a 6) m)) (Nat.le_of_ble_eq_true rfl) (Nat.zero_le _) (Nat.zero_le _) (fun _ _ q => q)) (Nat.le_of_ble_eq_true rfl) (fun _ _ ⟨_, _, _, q⟩ => q ▸ rfl) ?_
        rintro _ _ ⟨z34, w34, rfl, rfl⟩
        show P0 _ _ _ _ (96, [some (.ref 0), some (.int what)], [.int (costsV a t (g 7) m (sentV (a 6) m))], hC g z34 w34 a b) _
        exact P0.ri (by decide +kernel) rfl rfl ⟨_, _, _, (by unfold allV; rw [if_pos h1, if_pos h2, if_pos h3]), rfl⟩
      · refine P0.b GX11_all 4 (ob := []) (cf' := (if what = 3 then 71 else 75, [some (.ref 0), some (.int what)], [.ref 0], hC g z w a b)) rfl trivial ?_
        refine P0.if (fun h4 => ?_) (fun h4 => ?_)
        · refine P0.b GX11_all 2 (ob := []) (cf' := (76, [some (.ref 0), some (.int what)], [.int 0, .ref 0], hC g z w a b)) rfl trivial ?_
          refine P0.cs (as := [.ref 0, .int 0]) (rest := []) GX11_tellsValues kX11_all_76 rfl ⟨_, _, rfl, rfl, .inl ⟨_, _, _, _, rfl, rfl⟩⟩ (Nat.le_of_ble_eq_true rfl) (Nat.le_of_ble_eq_true rfl) (P0.mono (e_values hr hS 0 rfl) (Nat.le_of_ble_eq_true rfl) (Nat.zero_le _) (Nat.zero_le _) (fun _ _ q => q)) (Nat.le_of_ble_eq_true rfl) (fun _ _ ⟨_, _, _, _, _, q⟩ => q ▸ rfl) ?_
          rintro _ _ ⟨z35, w35, V, hV, rfl, rfl⟩
          show P0 _ _ _ _ (79, [some (.ref 0), some (.int what)], [], hC g z35 w35 a (up2 b 9 V)) _
          refine P0.b GX11_all 2 (ob := []) (cf' := (81, [some (.ref 0), some (.int what)], [.ref 0, .ref 0], hC g z35 w35 a (up2 b 9 V))) rfl trivial ?_
          refine P0.cd (d0 := 0) (as := [.ref 0]) (rest := [.ref 0]) (r1 := some (.int (lifeV (a 4)))) (h1 := hC g z35 w35 a (up2 b 9 V)) (st' := [.int (lifeV (a 4)), .ref 0]) GX11_lifeNow kX11_all_81 rfl ⟨_, _, rfl, rfl, .inl ⟨_, _, _, _, rfl, rfl⟩⟩ (Nat.le_of_ble_eq_true rfl) (Nat.le_of_ble_eq_true rfl) (e_X11_lifeNow) (Nat.le_of_ble_eq_true rfl) rfl (Nat.le_of_ble_eq_true rfl) rfl ?_
          refine P0.cd (d0 := 2) (as := [.ref 0, .int (lifeV (a 4))]) (rest := []) (r1 := some (.int (valV V (lifeV (a 4))))) (h1 := hC g z35 w35 a (up2 b 9 V)) (st' := [.int (valV V (lifeV (a 4)))]) GX11_valueOf kX11_all_84 rfl ⟨_, _, rfl, rfl, .inl ⟨_, _, _, _, rfl, rfl⟩⟩ (Nat.le_of_ble_eq_true rfl) (Nat.le_of_ble_eq_true rfl) (e_valueOf up2_s (lifeV (a 4))) (Nat.le_of_ble_eq_true rfl) rfl (Nat.le_of_ble_eq_true rfl) rfl ?_
          exact P0.ri (by decide +kernel) rfl rfl ⟨_, _, _, (by subst hV; unfold allV; rw [if_pos h1, if_pos h2, if_neg h3, if_pos h4]), rfl⟩
        · refine P0.b GX11_all 1 (ob := []) (cf' := (76, [some (.ref 0), some (.int what)], [.int 2, .ref 0], hC g z w a b)) rfl trivial ?_
          refine P0.cs (as := [.ref 0, .int 2]) (rest := []) GX11_tellsValues kX11_all_76 rfl ⟨_, _, rfl, rfl, .inl ⟨_, _, _, _, rfl, rfl⟩⟩ (Nat.le_of_ble_eq_true rfl) (Nat.le_of_ble_eq_true rfl) (P0.mono (e_values hr hS 2 rfl) (Nat.le_of_ble_eq_true rfl) (Nat.zero_le _) (Nat.zero_le _) (fun _ _ q => q)) (Nat.le_of_ble_eq_true rfl) (fun _ _ ⟨_, _, _, _, _, q⟩ => q ▸ rfl) ?_
          rintro _ _ ⟨z36, w36, V, hV, rfl, rfl⟩
          show P0 _ _ _ _ (79, [some (.ref 0), some (.int what)], [], hC g z36 w36 a (up2 b 9 V)) _
          refine P0.b GX11_all 2 (ob := []) (cf' := (81, [some (.ref 0), some (.int what)], [.ref 0, .ref 0], hC g z36 w36 a (up2 b 9 V))) rfl trivial ?_
          refine P0.cd (d0 := 0) (as := [.ref 0]) (rest := [.ref 0]) (r1 := some (.int (lifeV (a 4)))) (h1 := hC g z36 w36 a (up2 b 9 V)) (st' := [.int (lifeV (a 4)), .ref 0]) GX11_lifeNow kX11_all_81 rfl ⟨_, _, rfl, rfl, .inl ⟨_, _, _, _, rfl, rfl⟩⟩ (Nat.le_of_ble_eq_true rfl) (Nat.le_of_ble_eq_true rfl) (e_X11_lifeNow) (Nat.le_of_ble_eq_true rfl) rfl (Nat.le_of_ble_eq_true rfl) rfl ?_
          refine P0.cd (d0 := 2) (as := [.ref 0, .int (lifeV (a 4))]) (rest := []) (r1 := some (.int (valV V (lifeV (a 4))))) (h1 := hC g z36 w36 a (up2 b 9 V)) (st' := [.int (valV V (lifeV (a 4)))]) GX11_valueOf kX11_all_84 rfl ⟨_, _, rfl, rfl, .inl ⟨_, _, _, _, rfl, rfl⟩⟩ (Nat.le_of_ble_eq_true rfl) (Nat.le_of_ble_eq_true rfl) (e_valueOf up2_s (lifeV (a 4))) (Nat.le_of_ble_eq_true rfl) rfl (Nat.le_of_ble_eq_true rfl) rfl ?_
          exact P0.ri (by decide +kernel) rfl rfl ⟨_, _, _, (by subst hV; unfold allV; rw [if_pos h1, if_pos h2, if_neg h3, if_neg h4]), rfl⟩
    · refine P0.b GX11_all 1 (ob := []) (cf' := (22, [some (.ref 0), some (.int what)], [.ref 0], hC g z w a b)) rfl trivial ?_
      refine P0.cs (as := [.ref 0]) (rest := []) GX11_gathers kX11_all_22 rfl ⟨_, _, rfl, rfl, .inl ⟨_, _, _, _, rfl, rfl⟩⟩ (Nat.le_of_ble_eq_true rfl) (Nat.le_of_ble_eq_true rfl) (P0.mono (e_gathers hr hS hm hm6 hW rfl rfl) (Nat.le_of_ble_eq_true rfl) (Nat.zero_le _) (Nat.zero_le _) (fun _ _ q => q)) (Nat.le_of_ble_eq_true rfl) (fun _ _ ⟨_, _, _, _, _, _, _, q⟩ => q ▸ rfl) ?_
      rintro _ _ ⟨z37, w37, T, R, hT, hR, rfl, rfl⟩
      show P0 _ _ _ _ (25, [some (.ref 0), some (.int what)], [], hC g z37 w37 a (up2 (up2 b 7 T) 8 R)) _
      refine P0.b GX11_all 2 (ob := []) (cf' := (if what = 0 then 29 else 40, [some (.ref 0), some (.int what)], [], hC g z37 w37 a (up2 (up2 b 7 T) 8 R))) rfl trivial ?_
      refine P0.if (fun h5 => ?_) (fun h5 => ?_)
      · refine P0.b GX11_all 2 (ob := []) (cf' := (31, [some (.ref 0), some (.int what)], [.ref 0, .ref 0], hC g z37 w37 a (up2 (up2 b 7 T) 8 R))) rfl trivial ?_
        refine P0.cd (d0 := 0) (as := [.ref 0]) (rest := [.ref 0]) (r1 := some (.int (sentV (a 6) m))) (h1 := hC g z37 w37 a (up2 (up2 b 7 T) 8 R)) (st' := [.int (sentV (a 6) m), .ref 0]) GX11_sentSet kX11_all_31 rfl ⟨_, _, rfl, rfl, .inl ⟨_, _, _, _, rfl, rfl⟩⟩ (Nat.le_of_ble_eq_true rfl) (Nat.le_of_ble_eq_true rfl) (e_X11_sentSet hm hm6) (Nat.le_of_ble_eq_true rfl) rfl (Nat.le_of_ble_eq_true rfl) rfl ?_
        refine P0.cd (d0 := 0) (as := [.ref 0, .int (sentV (a 6) m)]) (rest := []) (r1 := some (.int (livV R (sentV (a 6) m)))) (h1 := hC g z37 w37 a (up2 (up2 b 7 T) 8 R)) (st' := [.int (livV R (sentV (a 6) m))]) GX11_livesBy kX11_all_34 rfl ⟨_, _, rfl, rfl, .inl ⟨_, _, _, _, rfl, rfl⟩⟩ (Nat.le_of_ble_eq_true rfl) (Nat.le_of_ble_eq_true rfl) (e_livesBy up2_s (sentV (a 6) m)) (Nat.le_of_ble_eq_true rfl) rfl (Nat.le_of_ble_eq_true rfl) rfl ?_
        refine P0.b GX11_all 1 (ob := []) (cf' := (59, [some (.ref 0), some (.int what)], [.int (livV R (sentV (a 6) m))], hC g z37 w37 a (up2 (up2 b 7 T) 8 R))) rfl trivial ?_
        exact P0.ri (by decide +kernel) rfl rfl ⟨_, _, _, (by subst hT hR; unfold allV; rw [if_pos h1, if_neg h2, if_pos h5]), rfl⟩
      · refine P0.b GX11_all 3 (ob := []) (cf' := (if what = 1 then 45 else 52, [some (.ref 0), some (.int what)], [], hC g z37 w37 a (up2 (up2 b 7 T) 8 R))) rfl trivial ?_
        refine P0.if (fun h6 => ?_) (fun h6 => ?_)
        · refine P0.b GX11_all 1 (ob := []) (cf' := (46, [some (.ref 0), some (.int what)], [.ref 0], hC g z37 w37 a (up2 (up2 b 7 T) 8 R))) rfl trivial ?_
          refine P0.cd (d0 := 2) (as := [.ref 0]) (rest := []) (r1 := some (.int (sureV R (sentV (a 6) m)))) (h1 := hC g z37 w37 a (up2 (up2 b 7 T) 8 R)) (st' := [.int (sureV R (sentV (a 6) m))]) GX11_sure kX11_all_46 rfl ⟨_, _, rfl, rfl, .inl ⟨_, _, _, _, rfl, rfl⟩⟩ (Nat.le_of_ble_eq_true rfl) (Nat.le_of_ble_eq_true rfl) (e_sure hm hm6 up2_s) (Nat.le_of_ble_eq_true rfl) rfl (Nat.le_of_ble_eq_true rfl) rfl ?_
          refine P0.b GX11_all 1 (ob := []) (cf' := (59, [some (.ref 0), some (.int what)], [.int (sureV R (sentV (a 6) m))], hC g z37 w37 a (up2 (up2 b 7 T) 8 R))) rfl trivial ?_
          exact P0.ri (by decide +kernel) rfl rfl ⟨_, _, _, (by subst hT hR; unfold allV; rw [if_pos h1, if_neg h2, if_neg h5, if_pos h6]), rfl⟩
        · refine P0.b GX11_all 1 (ob := []) (cf' := (53, [some (.ref 0), some (.int what)], [.ref 0], hC g z37 w37 a (up2 (up2 b 7 T) 8 R))) rfl trivial ?_
          refine P0.cd (d0 := 2) (as := [.ref 0]) (rest := []) (r1 := some (.int (sureV R (sentV (a 6) m)))) (h1 := hC g z37 w37 a (up2 (up2 b 7 T) 8 R)) (st' := [.int (sureV R (sentV (a 6) m))]) GX11_sure kX11_all_53 rfl ⟨_, _, rfl, rfl, .inl ⟨_, _, _, _, rfl, rfl⟩⟩ (Nat.le_of_ble_eq_true rfl) (Nat.le_of_ble_eq_true rfl) (e_sure hm hm6 up2_s) (Nat.le_of_ble_eq_true rfl) rfl (Nat.le_of_ble_eq_true rfl) rfl ?_
          refine P0.cr (io := []) (as := [.int (sureV R (sentV (a 6) m))]) (rest := []) (hc := []) (hc1 := []) (r1 := some (.int (kb 7 (sureV R (sentV (a 6) m))))) (st' := [.int (kb 7 (sureV R (sentV (a 6) m)))]) (h' := hC g z37 w37 a (up2 (up2 b 7 T) 8 R)) (d0 := 0) GX11_bitsOf kX11_all_56 rfl rfl (Nat.le_of_ble_eq_true rfl) (Nat.le_of_ble_eq_true rfl) rfl trivial (e_X11_bitsOf (sureV_zz _ _)) (Nat.zero_le _) rfl (Nat.le_of_ble_eq_true rfl) (Nat.le_of_ble_eq_true rfl) rfl rfl ?_
          exact P0.ri (by decide +kernel) rfl rfl ⟨_, _, _, (by subst hT hR; unfold allV; rw [if_pos h1, if_neg h2, if_neg h5, if_neg h6]), rfl⟩
