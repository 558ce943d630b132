/-! ===== what fits, whom to send for (wip/tools/m_tie2.py) ===== -/
theorem allV_0 (A B : Nat → Nat → Int32) (t : Nat) (age : Int32) (m : Nat) : allV A t age m B 0 = livV (gatV A t age m (B 7) (B 8)) (sentV (A 6) m) := by
  unfold allV; rw [if_pos (by decide), if_neg (by decide), if_pos rfl]
theorem allV_1 (A B : Nat → Nat → Int32) (t : Nat) (age : Int32) (m : Nat) : allV A t age m B 1 = sureV (gatV A t age m (B 7) (B 8)) (sentV (A 6) m) := by
  unfold allV; rw [if_pos (by decide), if_neg (by decide), if_neg (by decide), if_pos rfl]
theorem allV_2 (A B : Nat → Nat → Int32) (t : Nat) (age : Int32) (m : Nat) : allV A t age m B 2 = kb 7 (sureV (gatV A t age m (B 7) (B 8)) (sentV (A 6) m)) := by
  unfold allV; rw [if_pos (by decide), if_neg (by decide), if_neg (by decide), if_neg (by decide)]
theorem allV_3 (A B : Nat → Nat → Int32) (t : Nat) (age : Int32) (m : Nat) : allV A t age m B 3 = valV (vasV A t age 0 (B 9)) (lifeV (A 4)) := by
  unfold allV; rw [if_pos (by decide), if_pos (by decide), if_neg (by decide), if_pos rfl]
theorem allV_4 (A B : Nat → Nat → Int32) (t : Nat) (age : Int32) (m : Nat) : allV A t age m B 4 = valV (vasV A t age 2 (B 9)) (lifeV (A 4)) := by
  unfold allV; rw [if_pos (by decide), if_pos (by decide), if_neg (by decide), if_neg (by decide)]
theorem allV_5 (A B : Nat → Nat → Int32) (t : Nat) (age : Int32) (m : Nat) : allV A t age m B 5 = costsV A t age m (sentV (A 6) m) := by
  unfold allV; rw [if_pos (by decide), if_pos (by decide), if_pos (by decide)]
theorem upto5 {x : Int32} (h : 0 ≤ x ∧ x ≤ 5) : x = 0 ∨ x = 1 ∨ x = 2 ∨ x = 3 ∨ x = 4 ∨ x = 5 := by
  rcases upto7 (le_more (by decide) h) with e | e | e | e | e | e | e | e
  · exact .inl e
  · exact .inr (.inl e)
  · exact .inr (.inr (.inl e))
  · exact .inr (.inr (.inr (.inl e)))
  · exact .inr (.inr (.inr (.inr (.inl e))))
  · exact .inr (.inr (.inr (.inr (.inr e))))
  · rw [e] at h; exact absurd h.2 (by decide)
  · rw [e] at h; exact absurd h.2 (by decide)
theorem W_now {q : Nat → Nat → Int32} {m : Nat} (hm : m ≤ 6) (R : Nat → Nat → Int32) {dl : Nat → Nat} (hdl : ∀ s, s < 6 → dl s < 4) : 0 < Wn (fb (ALV R dl m) (sbV q m)) 6 0 := by
  rw [sbV_n q hm]
  exact W_pos (n := nmb dl) (nmb_lt hdl) ((LPo_PB (nmb_lt hdl)).mpr (now_fits hm hdl (bN_lt _ m hm) (bN_ltm _ m)))
theorem bstV_ok {R c : Nat → Int32} {set : Int32} {m : Nat} {what : Int32} (h : 0 ≤ what ∧ what ≤ 1) : bstV R c set m what = if what = 0 then (bstP R c set m).1 else (bstP R c set m).2 := if_pos h
section UN
variable {g z : Nat → Int32} {a q u v b c y : Nat → Nat → Int32} {t tc : Nat} {TX : PH} {G Z : Nat → Int32} {W : Int64} {A B : Nat → Nat → Int32} {m n : Nat} {Vs : Nat → (Nat → Int32) → Int32 → Int32}
theorem j_all (hI : TIE g a q u v c y t tc TX G A m n Vs) (x : Int32) : JI mX10_all 2 mX11_all 2 [.int x] (hX g a q u v z b c y t tc TX) (hC G Z W A B) := by
  have hO := hI.O
  obtain ⟨⟨⟨m1, m2, m6⟩, ⟨c1, c2, c6⟩, ⟨t1, t2, tt⟩, ⟨n1, n2, n160⟩, ag⟩, ⟨xl, xs, xa⟩, hP, hL, hW, hC, hM, hH⟩ := id hI
  obtain ⟨cd, en, L, hR, hT⟩ := xs t tt
  obtain ⟨hS1, hTV⟩ := xa t tt
  have hWk := hW.wok m6
  have hLq := hL.eq
  obtain ⟨dl, hdl, hlf, hlA⟩ := hL.dl
  have hF := hW.fits (age := g 0) m6 hTV hdl hlA (B 7) (B 8)
  have hse := hW.sent m6
  by_cases h : 0 ≤ x ∧ x ≤ 5
  · rcases upto5 h with h | h | h | h | h | h
    · subst h; refine JI.ee hI (k_all0 hO m1 m6 hW.K hW.S hR hT t1 tt c6 hC hdl hlf) (e_X11_all t2 hS1 m2 m6 hWk _) rfl ?_
      rw [allV_0, ← ag]
      exact (livV_W hF).symm
    · subst h; refine JI.ee hI (k_all1 hO m1 m6 hW.K hW.S hR hT t1 tt c6 hC hdl hlf) (e_X11_all t2 hS1 m2 m6 hWk _) rfl ?_
      rw [allV_1, ← ag]
      exact (sureV_D hF).symm
    · subst h; refine JI.ee hI (k_all2 hO m1 m6 hW.K hW.S hR hT t1 tt c6 hC hdl hlf) (e_X11_all t2 hS1 m2 m6 hWk _) rfl ?_
      rw [allV_2, ← ag]
      exact congrArg (kb 7) (sureV_D hF).symm
    · subst h; refine JI.ee hI (k_all3 hO m1 m6 hW.K hW.S hR hT t1 tt c6 hC hdl hlf) (e_X11_all t2 hS1 m2 m6 hWk _) rfl ?_
      rw [allV_3, ← ag]
      exact (wl_c hTV hdl hlf hlA (B 9)).symm
    · subst h; refine JI.ee hI (k_all4 hO m1 m6 hW.K hW.S hR hT t1 tt c6 hC hdl hlf) (e_X11_all t2 hS1 m2 m6 hWk _) rfl ?_
      rw [allV_4, ← ag]
      exact (wl_c hTV hdl hlf hlA (B 9)).symm
    · subst h; refine JI.ee hI (k_all5 hO m1 m6 hW.K hW.S hR hT t1 tt c6 hC hdl hlf) (e_X11_all t2 hS1 m2 m6 hWk _) rfl ?_
      rw [allV_5, ← ag]
      rw [hW.costs m6 hTV, hse]
  · refine JI.ee hI (P0.ex hC (k_all_no h)) (e_X11_all t2 hS1 m2 m6 hWk _) rfl ?_
    exact (if_neg h).symm
theorem j_canBe (hI : TIE g a q u v c y t tc TX G A m n Vs) (x : Int32) : JI mX10_canBe 2 mX11_canBe 2 [.int x] (hX g a q u v z b c y t tc TX) (hC G Z W A B) := by
  have hO := hI.O
  obtain ⟨⟨⟨m1, m2, m6⟩, ⟨c1, c2, c6⟩, ⟨t1, t2, tt⟩, ⟨n1, n2, n160⟩, ag⟩, ⟨xl, xs, xa⟩, hP, hL, hW, hC, hM, hH⟩ := id hI
  obtain ⟨cd, en, L, hR, hT⟩ := xs t tt
  obtain ⟨hS1, hTV⟩ := xa t tt
  have hWk := hW.wok m6
  have hLq := hL.eq
  obtain ⟨dl, hdl, hlf, hlA⟩ := hL.dl
  have hF := hW.fits (age := g 0) m6 hTV hdl hlA (B 7) (B 8)
  have hse := hW.sent m6
  by_cases h : 0 ≤ x ∧ x ≤ 5
  · obtain ⟨s, hs, rfl⟩ := st_nI h
    refine JI.ee hI (k_canBe hO m1 m6 hW.K hW.S hR hT t1 tt c6 hC hdl hlf hs) (e_X11_canBe t2 hS1 m2 m6 hWk _) rfl ?_
    rw [if_pos h, ← ag]
    exact (canV_D hF hs).symm
  · refine JI.ee hI (P0.ex hC (k_canBe_no hO h)) (e_X11_canBe t2 hS1 m2 m6 hWk _) rfl ?_
    exact (if_neg h).symm
theorem j_fit (hI : TIE g a q u v c y t tc TX G A m n Vs) (x : Int32) : JI mX10_fit 2 mX11_fit 5 [.int x] (hX g a q u v z b c y t tc TX) (hC G Z W A B) := by
  have hO := hI.O
  obtain ⟨⟨⟨m1, m2, m6⟩, ⟨c1, c2, c6⟩, ⟨t1, t2, tt⟩, ⟨n1, n2, n160⟩, ag⟩, ⟨xl, xs, xa⟩, hP, hL, hW, hC, hM, hH⟩ := id hI
  obtain ⟨cd, en, L, hR, hT⟩ := xs t tt
  obtain ⟨hS1, hTV⟩ := xa t tt
  have hWk := hW.wok m6
  have hLq := hL.eq
  obtain ⟨dl, hdl, hlf, hlA⟩ := hL.dl
  have hF := hW.fits (age := g 0) m6 hTV hdl hlA (B 7) (B 8)
  have hse := hW.sent m6
  by_cases h : 0 ≤ x
  · obtain ⟨K, hK, rfl⟩ := nI_of (Int32.not_lt.mpr h)
    by_cases hk : K < Wn (fb (ALV (RLw (Vs t) q (g 0)) dl m) (sbV q m)) 6 0
    · refine JI.ee hI (k_fit_y hO m1 m6 hW.K hW.S hR hT t1 tt c6 hC hdl hlf hK hk) (e_X11_fit t2 hS1 m2 m6 hWk _) rfl ?_
      rw [if_neg (Int32.not_lt.mpr h), ← ag]
      exact (fitV_y hF hk).symm
    · refine JI.ee hI (k_fit_n hO m1 m6 hW.K hW.S hR hT t1 tt c6 hC hdl hlf hK (Nat.not_lt.mp hk)) (e_X11_fit t2 hS1 m2 m6 hWk _) rfl ?_
      rw [if_neg (Int32.not_lt.mpr h), ← ag]
      exact (fitV_n hF (Nat.not_lt.mp hk) hK).symm
  · refine JI.ee hI (P0.ex hC (k_fit_neg hO h)) (e_X11_fit t2 hS1 m2 m6 hWk _) rfl ?_
    exact (if_pos (Int32.not_le.mp h)).symm
theorem j_life (hI : TIE g a q u v c y t tc TX G A m n Vs) (x w : Int32) : JI mX10_life 5 mX11_life 8 [.int x, .int w] (hX g a q u v z b c y t tc TX) (hC G Z W A B) := by
  have hO := hI.O
  obtain ⟨⟨⟨m1, m2, m6⟩, ⟨c1, c2, c6⟩, ⟨t1, t2, tt⟩, ⟨n1, n2, n160⟩, ag⟩, ⟨xl, xs, xa⟩, hP, hL, hW, hC, hM, hH⟩ := id hI
  obtain ⟨cd, en, L, hR, hT⟩ := xs t tt
  obtain ⟨hS1, hTV⟩ := xa t tt
  have hWk := hW.wok m6
  have hLq := hL.eq
  obtain ⟨dl, hdl, hlf, hlA⟩ := hL.dl
  have hF := hW.fits (age := g 0) m6 hTV hdl hlA (B 7) (B 8)
  have hse := hW.sent m6
  by_cases h : (0 ≤ x ∧ x ≤ 1) ∧ 0 ≤ w ∧ w ≤ 1
  · have hW0 := W_now (q := q) m6 (RLw (Vs t) q (g 0)) hdl
    have hm_ : ∀ s l d, s < 6 → l < 4 → d < 4 → (cWt (Vs t) (g 0) 0 (-1) ((s * 4 + l) * 4 + d)).toInt = -1 * (vK A t (g 0) 0 s l d).toInt := fun s l d _ hl hd => wt_m hTV hl hd
    have hp_ : ∀ s l d, s < 6 → l < 4 → d < 4 → (cWt (Vs t) (g 0) 2 1 ((s * 4 + l) * 4 + d)).toInt = 1 * (vK A t (g 0) 2 s l d).toInt := fun s l d _ hl hd => wt_p hTV hl hd
    have L0 := life_same (m0 := z0) (val := fun l => - valV (vasV A t (g 0) 0 (B 9)) (nI l)) hF (wb_of (.inr rfl) hm_) hW0 (fun L hL => by
      rw [val_pw (V := B 9) hm_ hL, neg_toInt (valV_rng hL)]; omega)
    have L1 := life_same (m0 := z0) (val := fun l => valV (vasV A t (g 0) 2 (B 9)) (nI l)) hF (wb_of (.inl rfl) hp_) hW0 (fun L hL => by
      rw [val_pw (V := B 9) hp_ hL]; omega)
    rcases upto1 h.1 with e | e <;> rcases upto1 h.2 with e2 | e2 <;> subst e e2
    · refine JI.ee hI (k_life00 hO m1 m6 hW.K hW.S hR hT t1 tt c6 hC hdl hlf) (e_X11_life t2 hS1 m2 m6 hWk _ _) rfl ?_
      rw [← ag]; unfold lifeAns
      rw [if_pos h.1, if_pos h.2, if_pos rfl, if_pos rfl]
      exact L0.1.symm
    · refine JI.ee hI (k_life01 hO m1 m6 hW.K hW.S hR hT t1 tt c6 hC hdl hlf) (e_X11_life t2 hS1 m2 m6 hWk _ _) rfl ?_
      rw [← ag]; unfold lifeAns
      rw [if_pos h.1, if_pos h.2, if_pos rfl, if_neg (by decide), m1_mul]
      exact congrArg (fun y => - y) L0.2.symm
    · refine JI.ee hI (k_life10 hO m1 m6 hW.K hW.S hR hT t1 tt c6 hC hdl hlf) (e_X11_life t2 hS1 m2 m6 hWk _ _) rfl ?_
      rw [← ag]; unfold lifeAns
      rw [if_pos h.1, if_pos h.2, if_neg (by decide), if_pos rfl]
      exact L1.1.symm
    · refine JI.ee hI (k_life11 hO m1 m6 hW.K hW.S hR hT t1 tt c6 hC hdl hlf) (e_X11_life t2 hS1 m2 m6 hWk _ _) rfl ?_
      rw [← ag]; unfold lifeAns
      rw [if_pos h.1, if_pos h.2, if_neg (by decide), if_neg (by decide), Int32.one_mul]
      exact L1.2.symm
  · refine JI.ee hI (P0.ex hC (k_life_no hO h)) (e_X11_life t2 hS1 m2 m6 hWk _ _) rfl ?_
    unfold lifeAns
    by_cases h1 : 0 ≤ x ∧ x ≤ 1
    · rw [if_pos h1, if_neg (fun z => h ⟨h1, z⟩)]
    · rw [if_neg h1]
theorem j_next (hI : TIE g a q u v c y t tc TX G A m n Vs) (x : Int32) : JI mX10_next 2 mX11_next 7 [.int x] (hX g a q u v z b c y t tc TX) (hC G Z W A B) := by
  have hO := hI.O
  obtain ⟨⟨⟨m1, m2, m6⟩, ⟨c1, c2, c6⟩, ⟨t1, t2, tt⟩, ⟨n1, n2, n160⟩, ag⟩, ⟨xl, xs, xa⟩, hP, hL, hW, hC, hM, hH⟩ := id hI
  obtain ⟨cd, en, L, hR, hT⟩ := xs t tt
  obtain ⟨hS1, hTV⟩ := xa t tt
  have hWk := hW.wok m6
  have hLq := hL.eq
  obtain ⟨dl, hdl, hlf, hlA⟩ := hL.dl
  have hF := hW.fits (age := g 0) m6 hTV hdl hlA (B 7) (B 8)
  have hse := hW.sent m6
  by_cases h : 0 ≤ x ∧ x ≤ 1
  · refine JI.ee hI (k_next hO m1 m6 hW.K hW.S hR hT t1 tt c6 hC hdl hlf h) (e_X11_next t2 hS1 m2 m6 hWk _) rfl ?_
    have hb : bstP (gatV A t (g 0) m (B 7) (B 8)) (fun x => livV (gatV A t (g 0) m (B 7) (B 8)) (sbV q m ||| (1 <<< (nI x &&& 31)))) (sbV q m) m = bcP q (fun x => nI (Wn (fb (ALV (RLw (Vs t) q (g 0)) dl m) ((sbV q m) ||| (1 <<< (nI x &&& 31)))) 6 0)) m (nI (Wn (fb (ALV (RLw (Vs t) q (g 0)) dl m) (sbV q m)) 6 0)) := by
      refine bst_same m6 (fun i hi => (hW i hi).2.2.1) (fun i hi => ?_) ?_
      · obtain ⟨w0, hw0, ew0⟩ := sbw_lt q m6
        show livV (gatV A t (g 0) m (B 7) (B 8)) (sbV q m ||| (1 <<< (nI i &&& 31))) = nI (Wn (fb (ALV (RLw (Vs t) q (g 0)) dl m) ((sbV q m) ||| (1 <<< (nI i &&& 31)))) 6 0)
        rw [ew0, (or_key w0 hw0 i (by omega)).2]
        exact livV_W (hW.fit m6 hTV hdl hlA (B 7) (B 8) (or_key w0 hw0 i (by omega)).1)
      · rw [hse] at hF
        exact livV_W hF
    rw [bstV_ok h, ← ag, hse, hb]
    rfl
  · refine JI.ee hI (P0.ex hC (k_next_no hO h)) (e_X11_next t2 hS1 m2 m6 hWk _) rfl ?_
    exact (if_neg h).symm
theorem j_safest (hI : TIE g a q u v c y t tc TX G A m n Vs) (x : Int32) : JI mX10_safest 2 mX11_safest 7 [.int x] (hX g a q u v z b c y t tc TX) (hC G Z W A B) := by
  have hO := hI.O
  obtain ⟨⟨⟨m1, m2, m6⟩, ⟨c1, c2, c6⟩, ⟨t1, t2, tt⟩, ⟨n1, n2, n160⟩, ag⟩, ⟨xl, xs, xa⟩, hP, hL, hW, hC, hM, hH⟩ := id hI
  obtain ⟨cd, en, L, hR, hT⟩ := xs t tt
  obtain ⟨hS1, hTV⟩ := xa t tt
  have hWk := hW.wok m6
  have hLq := hL.eq
  obtain ⟨dl, hdl, hlf, hlA⟩ := hL.dl
  have hF := hW.fits (age := g 0) m6 hTV hdl hlA (B 7) (B 8)
  have hse := hW.sent m6
  by_cases h : 0 ≤ x ∧ x ≤ 1
  · refine JI.ee hI (k_safest hO m1 m6 hW.K hW.S hR hT t1 tt c6 hC hdl hlf h) (e_X11_safest t2 hS1 m2 m6 hWk _) rfl ?_
    rw [hse] at hF
    have hb : bstP (gatV A t (g 0) m (B 7) (B 8)) (fun x => nI (mxL (codL (tabV A t (g 0) m (B 7)) (gatV A t (g 0) m (B 7) (B 8)) x (sbV q m) 4096))) (sbV q m) m = bcP q (fun x => nI (Mx (tB (ALV (RLw (Vs t) q (g 0)) dl m) (RLw (Vs t) q (g 0) x) (sbV q m)) 6 h0)) m (nI (Wn (fb (ALV (RLw (Vs t) q (g 0)) dl m) (sbV q m)) 6 0)) := by
      refine bst_same m6 (fun i hi => (hW i hi).2.2.1) (fun i hi => ?_) ?_
      · have e := safe_same (x := i) (sy := RLw (Vs t) q (g 0) i) hF (hW.by m6 hTV (B 7) hi) (fun p _ => RLw_rng _ _ _ _ _)
        show nI (mxL _) = nI _
        rw [e]
      · exact livV_W hF
    rw [bstV_ok h, ← ag, hse, hb]
    rfl
  · refine JI.ee hI (P0.ex hC (k_safest_no hO h)) (e_X11_safest t2 hS1 m2 m6 hWk _) rfl ?_
    exact (if_neg h).symm
theorem j_fewest (hI : TIE g a q u v c y t tc TX G A m n Vs) (x : Int32) : JI mX10_fewest 4 mX11_fewest 7 [.int x] (hX g a q u v z b c y t tc TX) (hC G Z W A B) := by
  have hO := hI.O
  obtain ⟨⟨⟨m1, m2, m6⟩, ⟨c1, c2, c6⟩, ⟨t1, t2, tt⟩, ⟨n1, n2, n160⟩, ag⟩, ⟨xl, xs, xa⟩, hP, hL, hW, hC, hM, hH⟩ := id hI
  obtain ⟨cd, en, L, hR, hT⟩ := xs t tt
  obtain ⟨hS1, hTV⟩ := xa t tt
  have hWk := hW.wok m6
  have hLq := hL.eq
  obtain ⟨dl, hdl, hlf, hlA⟩ := hL.dl
  have hF := hW.fits (age := g 0) m6 hTV hdl hlA (B 7) (B 8)
  have hse := hW.sent m6
  by_cases h : 0 ≤ x ∧ x ≤ 4
  · have hE : 2 ^ m - 1 < 64 := by have := two_pow6 m6; omega
    have hFF : ∀ k, k < 2 ^ m - 1 + 1 → livV (gatV A t (g 0) m (B 7) (B 8)) (nI k) = (fun w => nI (Wn (fb (ALV (RLw (Vs t) q (g 0)) dl m) w) 6 0)) (nI k) := fun k hk => livV_W (hW.fit m6 hTV hdl hlA (B 7) (B 8) (by omega))
    obtain ⟨f1, f2, f3⟩ := few_same (c := fun k => costsV A t (g 0) m (nI k)) (C := fun s => psV (cPrc (Vs t) q (g 0)) m (nI s)) (FT := fun w => nI (Wn (fb (ALV (RLw (Vs t) q (g 0)) dl m) w) 6 0)) hE hFF (fun k _ => hW.costs m6 hTV _)
    rcases upto4 h with e | e | e | e | e
    · subst e; refine JI.ee hI (k_fewest0 hO m1 m6 hW.K hW.S hR hT t1 tt c6 hC hdl hlf) (e_X11_fewest t2 hS1 m2 m6 hWk _) rfl ?_
      rw [← ag]; unfold fewV
      rw [if_pos h, if_neg (by decide), if_pos rfl]
      exact f1.symm
    · subst e; refine JI.ee hI (k_fewest1 hO m1 m6 hW.K hW.S hR hT t1 tt c6 hC hdl hlf) (e_X11_fewest t2 hS1 m2 m6 hWk _) rfl ?_
      rw [← ag]; unfold fewV
      rw [if_pos h, if_neg (by decide), if_neg (by decide)]
      exact congrArg (kb 7) f1.symm
    · subst e; refine JI.ee hI (k_fewest2 hO m1 m6 hW.K hW.S hR hT t1 tt c6 hC hdl hlf) (e_X11_fewest t2 hS1 m2 m6 hWk _) rfl ?_
      rw [← ag]; unfold fewV
      rw [if_pos h, if_pos (by decide), if_pos rfl]
      exact f2.symm
    · subst e; refine JI.ee hI (k_fewest3 hO m1 m6 hW.K hW.S hR hT t1 tt c6 hC hdl hlf) (e_X11_fewest t2 hS1 m2 m6 hWk _) rfl ?_
      rw [← ag]; unfold fewV
      rw [if_pos h, if_pos (by decide), if_neg (by decide), if_pos rfl]
      exact (congrArg (psV (cPrc (Vs t) q (g 0)) m) f2.symm).trans (hW.costs m6 hTV _).symm
    · subst e; refine JI.ee hI (k_fewest4 hO m1 m6 hW.K hW.S hR hT t1 tt c6 hC hdl hlf) (e_X11_fewest t2 hS1 m2 m6 hWk _) rfl ?_
      rw [← ag]; unfold fewV
      rw [if_pos h, if_pos (by decide), if_neg (by decide), if_neg (by decide)]
      exact (hFF (2 ^ m - 1) (by omega)).symm
  · refine JI.ee hI (P0.ex hC (k_fewest_no hO h)) (e_X11_fewest t2 hS1 m2 m6 hWk _) rfl ?_
    exact (if_neg h).symm
end UN
