/-! ===== laid by program (wip/tools) ===== -/
theorem P0.eqcf {d mc ms : Nat} {M : MI} {cf cf' : CF} {Q : Option Value → PH → Prop} (h : cf' = cf) (k : P0 d mc ms M cf Q) : P0 d mc ms M cf' Q := h ▸ k
theorem nI_sub {a b : Nat} (h : b ≤ a) : nI a - nI b = nI (a - b) := by
  obtain ⟨c, rfl⟩ := Nat.exists_eq_add_of_le h
  rw [Nat.add_sub_cancel_left, ← nI_add, Int32.sub_eq_add_neg, Int32.add_comm (nI b) (nI c), Int32.add_assoc, Int32.add_right_neg, Int32.add_zero]
theorem nI_dec {E i : Nat} (h : i < E) : nI (E - i) + -1 = nI E - nI (i + 1) := by
  rw [pm_nI, nI_sub (show i + 1 ≤ E by omega)]
  obtain ⟨c, hc⟩ : ∃ c, E - i = c + 1 := ⟨E - i - 1, by omega⟩
  rw [hc, nI_pred, show E - (i + 1) = c by omega]
theorem nI_end (E : Nat) : nI (E - E) + -1 = nI E - nI (E + 1) := by
  rw [Nat.sub_self, ← nI_1, Int32.sub_eq_add_neg (nI E), Int32.neg_add, Int32.sub_eq_add_neg (-nI E), ← Int32.add_assoc, Int32.add_right_neg, Int32.zero_add, nI_0, Int32.zero_add]
theorem nI_decr {E i : Nat} (h : i < E + 1) : nI (E - i) + -1 = nI E - nI (i + 1) := by
  by_cases e : i = E
  · rw [e]; exact nI_end E
  · exact nI_dec (by omega)
theorem nI_out (E : Nat) : nI E - nI (E + 1) = -1 := by rw [← nI_end E, Nat.sub_self]; decide
theorem ev_nI {m : Nat} (h : m ≤ 6) : (1 : Int32) <<< (nI m &&& 31) - 1 = nI (2 ^ m - 1) := by
  have : ∀ m, m ≤ 6 → (1 : Int32) <<< (nI m &&& 31) - 1 = nI (2 ^ m - 1) := by decide +kernel
  exact this m h
theorem two_pow6 {m : Nat} (h : m ≤ 6) : 2 ^ m ≤ 64 := Nat.pow_le_pow_right (by decide) h
/-- of the sets that leave as few: that of fewest, that of least costs; the last tried first -/
def fewF (R : Nat → Int32) (c : Nat → Int32) (goal : Int32) (E : Nat) : Nat → Nat × Nat → Nat × Nat := fun i p =>
  if livV R (nI (E - i)) = goal then (if kb 7 (nI p.1) < kb 7 (nI (E - i)) then p.1 else E - i, if c p.2 < c (E - i) then p.2 else E - i) else p
def fewP (R : Nat → Int32) (c : Nat → Int32) (goal : Int32) (E : Nat) : Nat × Nat := it (fewF R c goal E) (E + 1) (E, E)
def fewV (R : Nat → Int32) (c : Nat → Int32) (E : Nat) (what : Int32) : Int32 :=
  if 0 ≤ what ∧ what ≤ 4 then (if 2 ≤ what then (if what = 2 then nI (fewP R c (livV R (nI E)) E).2 else if what = 3 then c (fewP R c (livV R (nI E)) E).2 else livV R (nI E))
    else if what = 0 then nI (fewP R c (livV R (nI E)) E).1 else kb 7 (nI (fewP R c (livV R (nI E)) E).1)) else -2
theorem few_le {R : Nat → Int32} {c : Nat → Int32} {goal : Int32} {E : Nat} : ∀ i, (it (fewF R c goal E) i (E, E)).1 ≤ E ∧ (it (fewF R c goal E) i (E, E)).2 ≤ E
  | 0 => ⟨Nat.le_refl _, Nat.le_refl _⟩
  | i + 1 => by
    obtain ⟨h1, h2⟩ := few_le (R := R) (c := c) (goal := goal) (E := E) i
    rw [it_succ]
    unfold fewF
    split
    · dsimp only
      constructor <;> split <;> first | omega | assumption
    · exact ⟨h1, h2⟩
theorem few_1 {R : Nat → Int32} {c : Nat → Int32} {goal : Int32} {E i : Nat} {p : Nat × Nat} (h : ¬ livV R (nI (E - i)) = goal) : p = fewF R c goal E i p := (if_neg h).symm
theorem few_2 {R : Nat → Int32} {c : Nat → Int32} {goal : Int32} {E i x y : Nat} {p : Nat × Nat} (h : livV R (nI (E - i)) = goal) (hx : (if kb 7 (nI p.1) < kb 7 (nI (E - i)) then p.1 else E - i) = x) (hy : (if c p.2 < c (E - i) then p.2 else E - i) = y) : (x, y) = fewF R c goal E i p := by
  unfold fewF
  rw [if_pos h, hx, hy]
section FEWV
variable {R : Nat → Int32} {c : Nat → Int32} {E : Nat} {what : Int32} {p : Nat × Nat}
theorem fewV_no (h1 : ¬ (0 ≤ what ∧ what ≤ 4)) : fewV R c E what = -2 := if_neg h1
theorem fewV_2 (h1 : 0 ≤ what ∧ what ≤ 4) (h2 : 2 ≤ what) (h3 : what = 2) (hp : p = it (fewF R c (livV R (nI E)) E) (E + 1) (E, E)) : fewV R c E what = nI p.2 := by
  unfold fewV fewP; rw [if_pos h1, if_pos h2, if_pos h3, ← hp]
theorem fewV_3 (h1 : 0 ≤ what ∧ what ≤ 4) (h2 : 2 ≤ what) (h3 : ¬ what = 2) (h4 : what = 3) (hp : p = it (fewF R c (livV R (nI E)) E) (E + 1) (E, E)) : fewV R c E what = c p.2 := by
  unfold fewV fewP; rw [if_pos h1, if_pos h2, if_neg h3, if_pos h4, ← hp]
theorem fewV_4 (h1 : 0 ≤ what ∧ what ≤ 4) (h2 : 2 ≤ what) (h3 : ¬ what = 2) (h4 : ¬ what = 3) : fewV R c E what = livV R (nI E) := by
  unfold fewV; rw [if_pos h1, if_pos h2, if_neg h3, if_neg h4]
theorem fewV_0 (h1 : 0 ≤ what ∧ what ≤ 4) (h2 : ¬ 2 ≤ what) (h3 : what = 0) (hp : p = it (fewF R c (livV R (nI E)) E) (E + 1) (E, E)) : fewV R c E what = nI p.1 := by
  unfold fewV fewP; rw [if_pos h1, if_neg h2, if_pos h3, ← hp]
theorem fewV_1 (h1 : 0 ≤ what ∧ what ≤ 4) (h2 : ¬ 2 ≤ what) (h3 : ¬ what = 0) (hp : p = it (fewF R c (livV R (nI E)) E) (E + 1) (E, E)) : fewV R c E what = kb 7 (nI p.1) := by
  unfold fewV fewP; rw [if_pos h1, if_neg h2, if_neg h3, ← hp]
end FEWV
set_option maxHeartbeats 1000000 in
theorem e_X11_fewest {g z : Nat → Int32} {w : Int64} {a b : Nat → Nat → Int32} {t m : Nat} (hr : g 4 = nI t) (hS : Std1 a t) (hm : g 11 = nI m) (hm6 : m ≤ 6) (hW : ∀ i, i < m → WOK a (nI i)) (what : Int32) : P0 46 0 0 mX11_fewest (0, ent 7 [.ref 0, .int what], [], hC g z w a b) (fun r h' => ∃ z' w' b', r = some (.int (fewV (gatV a t (g 7) m (b 7) (b 8)) (fun k => costsV a t (g 7) m (nI k)) (2 ^ m - 1) what)) ∧ h' = hC g z' w' a b') := by
  obtain ⟨E, hE, hE64⟩ : ∃ E, 2 ^ m - 1 = E ∧ E < 64 := ⟨_, rfl, by have := two_pow6 hm6; omega⟩
  rw [hE]
  refine P0.b GX11_fewest 4 (ob := []) (cf' := (6, [some (.ref 0), some (.int what), none, none, none, none, none], [.long 4, .long 0, .long what.toInt64], hC g z w a b)) rfl trivial ?_
  refine P0.cr (io := []) (as := [.long what.toInt64, .long ((0 : Int32).toInt64), .long ((4 : Int32).toInt64)]) (rest := []) (hc := []) (hc1 := []) (r1 := some (.int (if 0 ≤ what ∧ what ≤ 4 then 1 else 0))) (st' := [.int (if 0 ≤ what ∧ what ≤ 4 then 1 else 0)]) (h' := hC g z w a b) (d0 := 0) GX11_in kX11_fewest_6 rfl rfl (Nat.le_of_ble_eq_true rfl) (Nat.le_of_ble_eq_true rfl) rfl trivial (e_in32 what 0 4) (Nat.le_of_ble_eq_true rfl) rfl (Nat.le_of_ble_eq_true rfl) (Nat.le_of_ble_eq_true rfl) rfl rfl ?_
  refine P0.b GX11_fewest 1 (ob := []) (cf' := (if (if 0 ≤ what ∧ what ≤ 4 then 1 else 0) = 0 then 12 else 15, [some (.ref 0), some (.int what), none, none, none, none, none], [], hC g z w a b)) rfl trivial ?_
  refine P0.ifB (fun h1 => ?_) (fun h1 => ?_)
  · refine P0.b GX11_fewest 1 (ob := []) (cf' := (14, [some (.ref 0), some (.int what), none, none, none, none, none], [.int (-2)], hC g z w a b)) rfl trivial ?_
    exact P0.ri (by decide +kernel) rfl rfl ⟨_, _, _, (congrArg (fun y => some (Value.int y)) (fewV_no h1)).symm, rfl⟩
  · refine P0.b GX11_fewest 1 (ob := []) (cf' := (16, [some (.ref 0), some (.int what), none, none, none, none, none], [.ref 0], hC g z w a b)) rfl trivial ?_
    refine P0.cs (as := [.ref 0]) (rest := []) GX11_gathers kX11_fewest_16 rfl ⟨_, _, rfl, rfl, .inl ⟨_, _, _, _, rfl, rfl⟩⟩ (Nat.le_of_ble_eq_true rfl) (Nat.le_of_ble_eq_true rfl) (P0.mono (e_gathers hr hS hm hm6 hW rfl rfl) (Nat.le_of_ble_eq_true rfl) (Nat.zero_le _) (Nat.zero_le _) (fun _ _ q => q)) (Nat.le_of_ble_eq_true rfl) (fun _ _ ⟨_, _, _, _, _, _, _, q⟩ => q ▸ rfl) ?_
    rintro _ _ ⟨z55, w55, T, R, hT, hR, rfl, rfl⟩
    show P0 _ _ _ _ (19, [some (.ref 0), some (.int what), none, none, none, none, none], [], hC g z55 w55 a (up2 (up2 b 7 T) 8 R)) _
    refine P0.b GX11_fewest 9 (ob := []) (cf' := (30, [some (.ref 0), some (.int what), some (.int ((1 <<< ((g 11) &&& 31)) - 1)), none, none, none, none], [.int ((1 <<< ((g 11) &&& 31)) - 1), .ref 0], hC g z55 w55 a (up2 (up2 b 7 T) 8 R))) rfl trivial ?_
    rw [show ((1 <<< ((g 11) &&& 31)) - 1 : Int32) = nI E from by rw [hm, ev_nI hm6, hE]]
    refine P0.cd (d0 := 0) (as := [.ref 0, .int (nI E)]) (rest := []) (r1 := some (.int (livV R (nI E)))) (h1 := hC g z55 w55 a (up2 (up2 b 7 T) 8 R)) (st' := [.int (livV R (nI E))]) GX11_livesBy kX11_fewest_30 rfl ⟨_, _, rfl, rfl, .inl ⟨_, _, _, _, rfl, rfl⟩⟩ (Nat.le_of_ble_eq_true rfl) (Nat.le_of_ble_eq_true rfl) (e_livesBy up2_s (nI E)) (Nat.le_of_ble_eq_true rfl) rfl (Nat.le_of_ble_eq_true rfl) rfl ?_
    refine P0.b GX11_fewest 7 (ob := []) (cf' := (43, [some (.ref 0), some (.int what), some (.int (nI E)), some (.int (livV R (nI E))), some (.int (nI E)), some (.int (nI E)), some (.int (nI E))], [], hC g z55 w55 a (up2 (up2 b 7 T) 8 R))) rfl trivial ?_
    refine P0.eqcf (cf := (43, [some (.ref 0), some (.int what), some (.int (nI E)), some (.int (livV R (nI E))), some (.int (nI E)), some (.int (nI E)), some (.int (nI E - 0))], [], hC g z55 w55 a (up2 (up2 b 7 T) 8 R))) (by rw [Int32.sub_zero]) ?_
    refine P0.loopIZ (N := E + 1) (fun i (v : Nat × Nat) => v = it (fewF (R) (fun k => costsV a t (g 7) m (nI k)) (livV (R) (nI E)) E) i (E, E) ∧ v.1 ≤ E ∧ v.2 ≤ E) (fun x56 v56 z56 w56 => (43, [some (.ref 0), some (.int what), some (.int (nI E)), some (.int (livV (R) (nI E))), some (.int (nI v56.1)), some (.int (nI v56.2)), some (.int (nI E - x56))], [], hC g z56 w56 a (up2 (up2 b 7 T) 8 R))) (fun i56 v56 hi56 z56 w56 hI56 hk56 => ?_) (fun v56 z56 w56 hI56 => ?_) 0 (E, E) z55 w55 nI_0.symm ⟨rfl, Nat.le_refl _, Nat.le_refl _⟩
    · show P0 _ _ _ _ (43, [some (.ref 0), some (.int what), some (.int (nI E)), some (.int (livV (R) (nI E))), some (.int (nI v56.1)), some (.int (nI v56.2)), some (.int (nI E - nI i56))], [], hC g z56 w56 a (up2 (up2 b 7 T) 8 R)) _
      rw [show nI E - nI i56 = nI (E - i56) from nI_sub (by omega)]
      refine P0.b GX11_fewest 2 (ob := []) (cf' := (if nI (E - i56) < 0 then 110 else 48, [some (.ref 0), some (.int what), some (.int (nI E)), some (.int (livV (R) (nI E))), some (.int (nI v56.1)), some (.int (nI v56.2)), some (.int (nI (E - i56)))], [], hC g z56 w56 a (up2 (up2 b 7 T) 8 R))) rfl trivial ?_
      rw [if_neg (show ¬ (nI (E - i56) < 0) from nI_pos (by omega))]
      refine P0.b GX11_fewest 2 (ob := []) (cf' := (51, [some (.ref 0), some (.int what), some (.int (nI E)), some (.int (livV (R) (nI E))), some (.int (nI v56.1)), some (.int (nI v56.2)), some (.int (nI (E - i56)))], [.int (nI (E - i56)), .ref 0], hC g z56 w56 a (up2 (up2 b 7 T) 8 R))) rfl trivial ?_
      refine P0.cd (d0 := 0) (as := [.ref 0, .int (nI (E - i56))]) (rest := []) (r1 := some (.int (livV R (nI (E - i56))))) (h1 := hC g z56 w56 a (up2 (up2 b 7 T) 8 R)) (st' := [.int (livV R (nI (E - i56)))]) GX11_livesBy kX11_fewest_51 rfl ⟨_, _, rfl, rfl, .inl ⟨_, _, _, _, rfl, rfl⟩⟩ (Nat.le_of_ble_eq_true rfl) (Nat.le_of_ble_eq_true rfl) (e_livesBy up2_s (nI (E - i56))) (Nat.le_of_ble_eq_true rfl) rfl (Nat.le_of_ble_eq_true rfl) rfl ?_
      refine P0.b GX11_fewest 2 (ob := []) (cf' := (if livV R (nI (E - i56)) = livV (R) (nI E) then 58 else 104, [some (.ref 0), some (.int what), some (.int (nI E)), some (.int (livV (R) (nI E))), some (.int (nI v56.1)), some (.int (nI v56.2)), some (.int (nI (E - i56)))], [], hC g z56 w56 a (up2 (up2 b 7 T) 8 R))) rfl trivial ?_
      refine P0.if (fun h2 => ?_) (fun h2 => ?_)
      · refine P0.b GX11_fewest 1 (ob := []) (cf' := (60, [some (.ref 0), some (.int what), some (.int (nI E)), some (.int (livV (R) (nI E))), some (.int (nI v56.1)), some (.int (nI v56.2)), some (.int (nI (E - i56)))], [.int (nI (E - i56))], hC g z56 w56 a (up2 (up2 b 7 T) 8 R))) rfl trivial ?_
        refine P0.cr (io := []) (as := [.int (nI (E - i56))]) (rest := []) (hc := []) (hc1 := []) (r1 := some (.int (kb 7 (nI (E - i56))))) (st' := [.int (kb 7 (nI (E - i56)))]) (h' := hC g z56 w56 a (up2 (up2 b 7 T) 8 R)) (d0 := 0) GX11_bitsOf kX11_fewest_60 rfl rfl (Nat.le_of_ble_eq_true rfl) (Nat.le_of_ble_eq_true rfl) rfl trivial (e_X11_bitsOf (zz_64 _ (by omega))) (Nat.zero_le _) rfl (Nat.le_of_ble_eq_true rfl) (Nat.le_of_ble_eq_true rfl) rfl rfl ?_
        refine P0.b GX11_fewest 1 (ob := []) (cf' := (65, [some (.ref 0), some (.int what), some (.int (nI E)), some (.int (livV (R) (nI E))), some (.int (nI v56.1)), some (.int (nI v56.2)), some (.int (nI (E - i56)))], [.int (nI v56.1), .int (kb 7 (nI (E - i56)))], hC g z56 w56 a (up2 (up2 b 7 T) 8 R))) rfl trivial ?_
        refine P0.cr (io := []) (as := [.int (nI v56.1)]) (rest := [.int (kb 7 (nI (E - i56)))]) (hc := []) (hc1 := []) (r1 := some (.int (kb 7 (nI v56.1)))) (st' := [.int (kb 7 (nI v56.1)), .int (kb 7 (nI (E - i56)))]) (h' := hC g z56 w56 a (up2 (up2 b 7 T) 8 R)) (d0 := 0) GX11_bitsOf kX11_fewest_65 rfl rfl (Nat.le_of_ble_eq_true rfl) (Nat.le_of_ble_eq_true rfl) rfl trivial (e_X11_bitsOf (zz_64 _ (Nat.lt_of_le_of_lt hI56.2.1 hE64))) (Nat.zero_le _) rfl (Nat.le_of_ble_eq_true rfl) (Nat.le_of_ble_eq_true rfl) rfl rfl ?_
        refine P0.b GX11_fewest 1 (ob := []) (cf' := (if kb 7 (nI v56.1) < kb 7 (nI (E - i56)) then 76 else 71, [some (.ref 0), some (.int what), some (.int (nI E)), some (.int (livV (R) (nI E))), some (.int (nI v56.1)), some (.int (nI v56.2)), some (.int (nI (E - i56)))], [], hC g z56 w56 a (up2 (up2 b 7 T) 8 R))) rfl trivial ?_
        refine P0.if (fun h3 => ?_) (fun h3 => ?_)
        · refine P0.b GX11_fewest 4 (ob := []) (cf' := (83, [some (.ref 0), some (.int what), some (.int (nI E)), some (.int (livV (R) (nI E))), some (.int (nI v56.1)), some (.int (nI v56.2)), some (.int (nI (E - i56)))], [.int (nI (E - i56)), .ref 0], hC g z56 w56 a (up2 (up2 b 7 T) 8 R))) rfl trivial ?_
          refine P0.cs (as := [.ref 0, .int (nI (E - i56))]) (rest := []) GX11_costsBy kX11_fewest_83 rfl ⟨_, _, rfl, rfl, .inl ⟨_, _, _, _, rfl, rfl⟩⟩ (Nat.le_of_ble_eq_true rfl) (Nat.le_of_ble_eq_true rfl) (P0.mono (e_X11_costsBy hr hS hm hm6 hW (nI (E - i56))) (Nat.le_of_ble_eq_true rfl) (Nat.zero_le _) (Nat.zero_le _) (fun _ _ q => q)) (Nat.le_of_ble_eq_true rfl) (fun _ _ ⟨_, _, _, q⟩ => q ▸ rfl) ?_
          rintro _ _ ⟨z57, w57, rfl, rfl⟩
          show P0 _ _ _ _ (86, [some (.ref 0), some (.int what), some (.int (nI E)), some (.int (livV (R) (nI E))), some (.int (nI v56.1)), some (.int (nI v56.2)), some (.int (nI (E - i56)))], [.int (costsV a t (g 7) m (nI (E - i56)))], hC g z57 w57 a (up2 (up2 b 7 T) 8 R)) _
          refine P0.b GX11_fewest 2 (ob := []) (cf' := (89, [some (.ref 0), some (.int what), some (.int (nI E)), some (.int (livV (R) (nI E))), some (.int (nI v56.1)), some (.int (nI v56.2)), some (.int (nI (E - i56)))], [.int (nI v56.2), .ref 0, .int (costsV a t (g 7) m (nI (E - i56)))], hC g z57 w57 a (up2 (up2 b 7 T) 8 R))) rfl trivial ?_
          refine P0.cs (as := [.ref 0, .int (nI v56.2)]) (rest := [.int (costsV a t (g 7) m (nI (E - i56)))]) GX11_costsBy kX11_fewest_89 rfl ⟨_, _, rfl, rfl, .inl ⟨_, _, _, _, rfl, rfl⟩⟩ (Nat.le_of_ble_eq_true rfl) (Nat.le_of_ble_eq_true rfl) (P0.mono (e_X11_costsBy hr hS hm hm6 hW (nI v56.2)) (Nat.le_of_ble_eq_true rfl) (Nat.zero_le _) (Nat.zero_le _) (fun _ _ q => q)) (Nat.le_of_ble_eq_true rfl) (fun _ _ ⟨_, _, _, q⟩ => q ▸ rfl) ?_
          rintro _ _ ⟨z58, w58, rfl, rfl⟩
          show P0 _ _ _ _ (92, [some (.ref 0), some (.int what), some (.int (nI E)), some (.int (livV (R) (nI E))), some (.int (nI v56.1)), some (.int (nI v56.2)), some (.int (nI (E - i56)))], [.int (costsV a t (g 7) m (nI v56.2)), .int (costsV a t (g 7) m (nI (E - i56)))], hC g z58 w58 a (up2 (up2 b 7 T) 8 R)) _
          refine P0.b GX11_fewest 1 (ob := []) (cf' := (if costsV a t (g 7) m (nI v56.2) < costsV a t (g 7) m (nI (E - i56)) then 100 else 95, [some (.ref 0), some (.int what), some (.int (nI E)), some (.int (livV (R) (nI E))), some (.int (nI v56.1)), some (.int (nI v56.2)), some (.int (nI (E - i56)))], [], hC g z58 w58 a (up2 (up2 b 7 T) 8 R))) rfl trivial ?_
          refine P0.if (fun h4 => ?_) (fun h4 => ?_)
          · refine P0.b GX11_fewest 4 (ob := []) (cf' := (43, [some (.ref 0), some (.int what), some (.int (nI E)), some (.int (livV (R) (nI E))), some (.int (nI v56.1)), some (.int (nI v56.2)), some (.int ((nI (E - i56)) + (-1)))], [], hC g z58 w58 a (up2 (up2 b 7 T) 8 R))) rfl trivial ?_
            rw [show (nI (E - i56)) + (-1) = nI E - nI (i56 + 1) from nI_decr hi56]
            exact hk56 (nI (i56 + 1)) (v56.1, v56.2) z58 w58 rfl ⟨(by rw [it_succ, ← hI56.1]; exact few_2 (c := fun k => costsV a t (g 7) m (nI k)) h2 (if_pos h3) (if_pos h4)), hI56.2.1, hI56.2.2⟩
          · refine P0.b GX11_fewest 5 (ob := []) (cf' := (43, [some (.ref 0), some (.int what), some (.int (nI E)), some (.int (livV (R) (nI E))), some (.int (nI v56.1)), some (.int (nI (E - i56))), some (.int ((nI (E - i56)) + (-1)))], [], hC g z58 w58 a (up2 (up2 b 7 T) 8 R))) rfl trivial ?_
            rw [show (nI (E - i56)) + (-1) = nI E - nI (i56 + 1) from nI_decr hi56]
            exact hk56 (nI (i56 + 1)) (v56.1, (E - i56)) z58 w58 rfl ⟨(by rw [it_succ, ← hI56.1]; exact few_2 (c := fun k => costsV a t (g 7) m (nI k)) h2 (if_pos h3) (if_neg h4)), hI56.2.1, Nat.sub_le _ _⟩
        · refine P0.b GX11_fewest 5 (ob := []) (cf' := (83, [some (.ref 0), some (.int what), some (.int (nI E)), some (.int (livV (R) (nI E))), some (.int (nI (E - i56))), some (.int (nI v56.2)), some (.int (nI (E - i56)))], [.int (nI (E - i56)), .ref 0], hC g z56 w56 a (up2 (up2 b 7 T) 8 R))) rfl trivial ?_
          refine P0.cs (as := [.ref 0, .int (nI (E - i56))]) (rest := []) GX11_costsBy kX11_fewest_83 rfl ⟨_, _, rfl, rfl, .inl ⟨_, _, _, _, rfl, rfl⟩⟩ (Nat.le_of_ble_eq_true rfl) (Nat.le_of_ble_eq_true rfl) (P0.mono (e_X11_costsBy hr hS hm hm6 hW (nI (E - i56))) (Nat.le_of_ble_eq_true rfl) (Nat.zero_le _) (Nat.zero_le _) (fun _ _ q => q)) (Nat.le_of_ble_eq_true rfl) (fun _ _ ⟨_, _, _, q⟩ => q ▸ rfl) ?_
          rintro _ _ ⟨z59, w59, rfl, rfl⟩
          show P0 _ _ _ _ (86, [some (.ref 0), some (.int what), some (.int (nI E)), some (.int (livV (R) (nI E))), some (.int (nI (E - i56))), some (.int (nI v56.2)), some (.int (nI (E - i56)))], [.int (costsV a t (g 7) m (nI (E - i56)))], hC g z59 w59 a (up2 (up2 b 7 T) 8 R)) _
          refine P0.b GX11_fewest 2 (ob := []) (cf' := (89, [some (.ref 0), some (.int what), some (.int (nI E)), some (.int (livV (R) (nI E))), some (.int (nI (E - i56))), some (.int (nI v56.2)), some (.int (nI (E - i56)))], [.int (nI v56.2), .ref 0, .int (costsV a t (g 7) m (nI (E - i56)))], hC g z59 w59 a (up2 (up2 b 7 T) 8 R))) rfl trivial ?_
          refine P0.cs (as := [.ref 0, .int (nI v56.2)]) (rest := [.int (costsV a t (g 7) m (nI (E - i56)))]) GX11_costsBy kX11_fewest_89 rfl ⟨_, _, rfl, rfl, .inl ⟨_, _, _, _, rfl, rfl⟩⟩ (Nat.le_of_ble_eq_true rfl) (Nat.le_of_ble_eq_true rfl) (P0.mono (e_X11_costsBy hr hS hm hm6 hW (nI v56.2)) (Nat.le_of_ble_eq_true rfl) (Nat.zero_le _) (Nat.zero_le _) (fun _ _ q => q)) (Nat.le_of_ble_eq_true rfl) (fun _ _ ⟨_, _, _, q⟩ => q ▸ rfl) ?_
          rintro _ _ ⟨z60, w60, rfl, rfl⟩
          show P0 _ _ _ _ (92, [some (.ref 0), some (.int what), some (.int (nI E)), some (.int (livV (R) (nI E))), some (.int (nI (E - i56))), some (.int (nI v56.2)), some (.int (nI (E - i56)))], [.int (costsV a t (g 7) m (nI v56.2)), .int (costsV a t (g 7) m (nI (E - i56)))], hC g z60 w60 a (up2 (up2 b 7 T) 8 R)) _
          refine P0.b GX11_fewest 1 (ob := []) (cf' := (if costsV a t (g 7) m (nI v56.2) < costsV a t (g 7) m (nI (E - i56)) then 100 else 95, [some (.ref 0), some (.int what), some (.int (nI E)), some (.int (livV (R) (nI E))), some (.int (nI (E - i56))), some (.int (nI v56.2)), some (.int (nI (E - i56)))], [], hC g z60 w60 a (up2 (up2 b 7 T) 8 R))) rfl trivial ?_
          refine P0.if (fun h5 => ?_) (fun h5 => ?_)
          · refine P0.b GX11_fewest 4 (ob := []) (cf' := (43, [some (.ref 0), some (.int what), some (.int (nI E)), some (.int (livV (R) (nI E))), some (.int (nI (E - i56))), some (.int (nI v56.2)), some (.int ((nI (E - i56)) + (-1)))], [], hC g z60 w60 a (up2 (up2 b 7 T) 8 R))) rfl trivial ?_
            rw [show (nI (E - i56)) + (-1) = nI E - nI (i56 + 1) from nI_decr hi56]
            exact hk56 (nI (i56 + 1)) ((E - i56), v56.2) z60 w60 rfl ⟨(by rw [it_succ, ← hI56.1]; exact few_2 (c := fun k => costsV a t (g 7) m (nI k)) h2 (if_neg h3) (if_pos h5)), Nat.sub_le _ _, hI56.2.2⟩
          · refine P0.b GX11_fewest 5 (ob := []) (cf' := (43, [some (.ref 0), some (.int what), some (.int (nI E)), some (.int (livV (R) (nI E))), some (.int (nI (E - i56))), some (.int (nI (E - i56))), some (.int ((nI (E - i56)) + (-1)))], [], hC g z60 w60 a (up2 (up2 b 7 T) 8 R))) rfl trivial ?_
            rw [show (nI (E - i56)) + (-1) = nI E - nI (i56 + 1) from nI_decr hi56]
            exact hk56 (nI (i56 + 1)) ((E - i56), (E - i56)) z60 w60 rfl ⟨(by rw [it_succ, ← hI56.1]; exact few_2 (c := fun k => costsV a t (g 7) m (nI k)) h2 (if_neg h3) (if_neg h5)), Nat.sub_le _ _, Nat.sub_le _ _⟩
      · refine P0.b GX11_fewest 2 (ob := []) (cf' := (43, [some (.ref 0), some (.int what), some (.int (nI E)), some (.int (livV (R) (nI E))), some (.int (nI v56.1)), some (.int (nI v56.2)), some (.int ((nI (E - i56)) + (-1)))], [], hC g z56 w56 a (up2 (up2 b 7 T) 8 R))) rfl trivial ?_
        rw [show (nI (E - i56)) + (-1) = nI E - nI (i56 + 1) from nI_decr hi56]
        exact hk56 (nI (i56 + 1)) (v56.1, v56.2) z56 w56 rfl ⟨(by rw [it_succ, ← hI56.1]; exact few_1 h2), hI56.2.1, hI56.2.2⟩
    · show P0 _ _ _ _ (43, [some (.ref 0), some (.int what), some (.int (nI E)), some (.int (livV (R) (nI E))), some (.int (nI v56.1)), some (.int (nI v56.2)), some (.int (nI E - nI (E + 1)))], [], hC g z56 w56 a (up2 (up2 b 7 T) 8 R)) _
      rw [show nI E - nI (E + 1) = -1 from nI_out _]
      refine P0.b GX11_fewest 5 (ob := []) (cf' := (if 2 ≤ what then 130 else 115, [some (.ref 0), some (.int what), some (.int (nI E)), some (.int (livV (R) (nI E))), some (.int (nI v56.1)), some (.int (nI v56.2)), some (.int (-1))], [], hC g z56 w56 a (up2 (up2 b 7 T) 8 R))) rfl trivial ?_
      refine P0.if (fun h6 => ?_) (fun h6 => ?_)
      · refine P0.b GX11_fewest 3 (ob := []) (cf' := (if what = 2 then 135 else 140, [some (.ref 0), some (.int what), some (.int (nI E)), some (.int (livV (R) (nI E))), some (.int (nI v56.1)), some (.int (nI v56.2)), some (.int (-1))], [], hC g z56 w56 a (up2 (up2 b 7 T) 8 R))) rfl trivial ?_
        refine P0.if (fun h7 => ?_) (fun h7 => ?_)
        · refine P0.b GX11_fewest 2 (ob := []) (cf' := (155, [some (.ref 0), some (.int what), some (.int (nI E)), some (.int (livV (R) (nI E))), some (.int (nI v56.1)), some (.int (nI v56.2)), some (.int (-1))], [.int (nI v56.2)], hC g z56 w56 a (up2 (up2 b 7 T) 8 R))) rfl trivial ?_
          exact P0.ri (by decide +kernel) rfl rfl ⟨_, _, _, (by rw [← hR]; exact (congrArg (fun y => some (Value.int y)) (fewV_2 h1 h6 h7 hI56.1)).symm), rfl⟩
        · refine P0.b GX11_fewest 3 (ob := []) (cf' := (if what = 3 then 145 else 154, [some (.ref 0), some (.int what), some (.int (nI E)), some (.int (livV (R) (nI E))), some (.int (nI v56.1)), some (.int (nI v56.2)), some (.int (-1))], [], hC g z56 w56 a (up2 (up2 b 7 T) 8 R))) rfl trivial ?_
          refine P0.if (fun h8 => ?_) (fun h8 => ?_)
          · refine P0.b GX11_fewest 2 (ob := []) (cf' := (148, [some (.ref 0), some (.int what), some (.int (nI E)), some (.int (livV (R) (nI E))), some (.int (nI v56.1)), some (.int (nI v56.2)), some (.int (-1))], [.int (nI v56.2), .ref 0], hC g z56 w56 a (up2 (up2 b 7 T) 8 R))) rfl trivial ?_
            refine P0.cs (as := [.ref 0, .int (nI v56.2)]) (rest := []) GX11_costsBy kX11_fewest_148 rfl ⟨_, _, rfl, rfl, .inl ⟨_, _, _, _, rfl, rfl⟩⟩ (Nat.le_of_ble_eq_true rfl) (Nat.le_of_ble_eq_true rfl) (P0.mono (e_X11_costsBy hr hS hm hm6 hW (nI v56.2)) (Nat.le_of_ble_eq_true rfl) (Nat.zero_le _) (Nat.zero_le _) (fun _ _ q => q)) (Nat.le_of_ble_eq_true rfl) (fun _ _ ⟨_, _, _, q⟩ => q ▸ rfl) ?_
            rintro _ _ ⟨z61, w61, rfl, rfl⟩
            show P0 _ _ _ _ (151, [some (.ref 0), some (.int what), some (.int (nI E)), some (.int (livV (R) (nI E))), some (.int (nI v56.1)), some (.int (nI v56.2)), some (.int (-1))], [.int (costsV a t (g 7) m (nI v56.2))], hC g z61 w61 a (up2 (up2 b 7 T) 8 R)) _
            refine P0.b GX11_fewest 1 (ob := []) (cf' := (155, [some (.ref 0), some (.int what), some (.int (nI E)), some (.int (livV (R) (nI E))), some (.int (nI v56.1)), some (.int (nI v56.2)), some (.int (-1))], [.int (costsV a t (g 7) m (nI v56.2))], hC g z61 w61 a (up2 (up2 b 7 T) 8 R))) rfl trivial ?_
            exact P0.ri (by decide +kernel) rfl rfl ⟨_, _, _, (by rw [← hR]; exact (congrArg (fun y => some (Value.int y)) (fewV_3 h1 h6 h7 h8 hI56.1)).symm), rfl⟩
          · refine P0.b GX11_fewest 1 (ob := []) (cf' := (155, [some (.ref 0), some (.int what), some (.int (nI E)), some (.int (livV (R) (nI E))), some (.int (nI v56.1)), some (.int (nI v56.2)), some (.int (-1))], [.int (livV (R) (nI E))], hC g z56 w56 a (up2 (up2 b 7 T) 8 R))) rfl trivial ?_
            exact P0.ri (by decide +kernel) rfl rfl ⟨_, _, _, (by rw [← hR]; exact (congrArg (fun y => some (Value.int y)) (fewV_4 h1 h6 h7 h8)).symm), rfl⟩
      · refine P0.b GX11_fewest 2 (ob := []) (cf' := (if what = 0 then 119 else 124, [some (.ref 0), some (.int what), some (.int (nI E)), some (.int (livV (R) (nI E))), some (.int (nI v56.1)), some (.int (nI v56.2)), some (.int (-1))], [], hC g z56 w56 a (up2 (up2 b 7 T) 8 R))) rfl trivial ?_
        refine P0.if (fun h9 => ?_) (fun h9 => ?_)
        · refine P0.b GX11_fewest 2 (ob := []) (cf' := (129, [some (.ref 0), some (.int what), some (.int (nI E)), some (.int (livV (R) (nI E))), some (.int (nI v56.1)), some (.int (nI v56.2)), some (.int (-1))], [.int (nI v56.1)], hC g z56 w56 a (up2 (up2 b 7 T) 8 R))) rfl trivial ?_
          exact P0.ri (by decide +kernel) rfl rfl ⟨_, _, _, (by rw [← hR]; exact (congrArg (fun y => some (Value.int y)) (fewV_0 h1 h6 h9 hI56.1)).symm), rfl⟩
        · refine P0.b GX11_fewest 1 (ob := []) (cf' := (126, [some (.ref 0), some (.int what), some (.int (nI E)), some (.int (livV (R) (nI E))), some (.int (nI v56.1)), some (.int (nI v56.2)), some (.int (-1))], [.int (nI v56.1)], hC g z56 w56 a (up2 (up2 b 7 T) 8 R))) rfl trivial ?_
          refine P0.cr (io := []) (as := [.int (nI v56.1)]) (rest := []) (hc := []) (hc1 := []) (r1 := some (.int (kb 7 (nI v56.1)))) (st' := [.int (kb 7 (nI v56.1))]) (h' := hC g z56 w56 a (up2 (up2 b 7 T) 8 R)) (d0 := 0) GX11_bitsOf kX11_fewest_126 rfl rfl (Nat.le_of_ble_eq_true rfl) (Nat.le_of_ble_eq_true rfl) rfl trivial (e_X11_bitsOf (zz_64 _ (Nat.lt_of_le_of_lt hI56.2.1 hE64))) (Nat.zero_le _) rfl (Nat.le_of_ble_eq_true rfl) (Nat.le_of_ble_eq_true rfl) rfl rfl ?_
          exact P0.ri (by decide +kernel) rfl rfl ⟨_, _, _, (by rw [← hR]; exact (congrArg (fun y => some (Value.int y)) (fewV_1 h1 h6 h9 hI56.1)).symm), rfl⟩
