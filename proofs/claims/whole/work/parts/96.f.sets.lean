/-! ===== set, witness, feed, force, image, back, taken (wip/tools/m_tie4.py) ===== -/
theorem TL.put {f F : Nat → Int32} (h : TL f F) {s d : Nat} (hd : d < 4) : TL (upd f s (nI d)) (upd F s (nI d)) := fun s' hs' => by
  by_cases e : s' = s
  · subst e; rw [pk_us, pk_us]; exact ⟨d, hd, rfl, rfl⟩
  · rw [pk_un e, pk_un e]; exact h s' hs'
section TWP
variable {q A : Nat → Nat → Int32} {m x : Nat} {w : Int32}
theorem TW.put2 (h : TW q A m) : TW (up2 q x (upd (q x) 2 w)) (up2 A 6 (upd (A 6) (3 * x) w)) m := fun y hy => by
  obtain ⟨h1, h2, h3, h4, h5, h6, h7⟩ := h y hy
  have e6 : up2 A 6 (upd (A 6) (3 * x) w) 6 = upd (A 6) (3 * x) w := up2v
  rw [e6, pk_un (f := A 6) (show 3 * y + 1 ≠ 3 * x by omega), pk_un (f := A 6) (show 3 * y + 2 ≠ 3 * x by omega)]
  by_cases e : y = x
  · subst e; rw [up2_s, pk_us]; exact ⟨h1, h2, h3, h4, rfl, h6, h7⟩
  · rw [up2_n e, pk_un (f := A 6) (show 3 * y ≠ 3 * x by omega)]; exact ⟨h1, h2, h3, h4, h5, h6, h7⟩
theorem TW.put3 (h : TW q A m) (hb : bcOK w) : TW (up2 q x (upd (q x) 3 w)) (up2 A 6 (upd (A 6) (3 * x + 1) w)) m := fun y hy => by
  obtain ⟨h1, h2, h3, h4, h5, h6, h7⟩ := h y hy
  have e6 : up2 A 6 (upd (A 6) (3 * x + 1) w) 6 = upd (A 6) (3 * x + 1) w := up2v
  rw [e6, pk_un (f := A 6) (show 3 * y ≠ 3 * x + 1 by omega), pk_un (f := A 6) (show 3 * y + 2 ≠ 3 * x + 1 by omega)]
  by_cases e : y = x
  · subst e; rw [up2_s, pk_us]; exact ⟨h1, hb, h3, h4, h5, pk_us, h7⟩
  · rw [up2_n e, pk_un (f := A 6) (show 3 * y + 1 ≠ 3 * x + 1 by omega)]; exact ⟨h1, h2, h3, h4, h5, h6, h7⟩
theorem TW.put4 (h : TW q A m) (hb : w = 0 ∨ w = 1) : TW (up2 q x (upd (q x) 4 w)) (up2 A 6 (upd (A 6) (3 * x + 2) w)) m := fun y hy => by
  obtain ⟨h1, h2, h3, h4, h5, h6, h7⟩ := h y hy
  have e6 : up2 A 6 (upd (A 6) (3 * x + 2) w) 6 = upd (A 6) (3 * x + 2) w := up2v
  rw [e6, pk_un (f := A 6) (show 3 * y ≠ 3 * x + 2 by omega), pk_un (f := A 6) (show 3 * y + 1 ≠ 3 * x + 2 by omega)]
  by_cases e : y = x
  · subst e; rw [up2_s, pk_us]; exact ⟨h1, h2, hb, h4, h5, h6, pk_us⟩
  · rw [up2_n e, pk_un (f := A 6) (show 3 * y + 2 ≠ 3 * x + 2 by omega)]; exact ⟨h1, h2, h3, h4, h5, h6, h7⟩
theorem TW.add {k1 k2 k3 : Int32} (h : TW q A m) (hk : ∃ k, k < 6 ∧ k1 = nI k) (hb : bcOK k3) : TW (up2 q m (qw k1 k2 k3 0)) (up2 (up2 A 5 (upd (A 5) m k1)) 6 (upd (upd (upd (A 6) (3 * m) k2) (3 * m + 1) k3) (3 * m + 2) 0)) (m + 1) := fun y hy => by
  have e6 : up2 (up2 A 5 (upd (A 5) m k1)) 6 (upd (upd (upd (A 6) (3 * m) k2) (3 * m + 1) k3) (3 * m + 2) 0) 6 = upd (upd (upd (A 6) (3 * m) k2) (3 * m + 1) k3) (3 * m + 2) 0 := up2v
  have e5 : up2 (up2 A 5 (upd (A 5) m k1)) 6 (upd (upd (upd (A 6) (3 * m) k2) (3 * m + 1) k3) (3 * m + 2) 0) 5 = upd (A 5) m k1 := rfl
  rw [e6, e5]
  by_cases e : y = m
  · subst e
    rw [up2_s]
    refine ⟨hk, hb, .inl rfl, pk_us, ?_, ?_, pk_us⟩
    · rw [pk_un (by omega), pk_un (by omega), pk_us]; rfl
    · rw [pk_un (by omega), pk_us]; rfl
  · rw [up2_n e, pk_un e, pk_un (by omega), pk_un (by omega), pk_un (by omega), pk_un (by omega), pk_un (by omega), pk_un (by omega), pk_un (by omega), pk_un (by omega), pk_un (by omega)]
    exact h y (by omega)
end TWP
theorem up63 {x : Int32} (h : 0 ≤ x ∧ x ≤ 63) : bcOK x := by
  obtain ⟨j, hj, e⟩ := small_nI (N := 63) (by decide) h
  exact ⟨j, by omega, e⟩
theorem up3 {x : Int32} (h : 0 ≤ x ∧ x ≤ 3) : ∃ d, d < 4 ∧ x = nI d := by
  obtain ⟨j, hj, e⟩ := small_nI (N := 3) (by decide) h
  exact ⟨j, by omega, e⟩
theorem TI.up {g G : Nat → Int32} {a A : Nat → Nat → Int32} {m tc : Nat} (h : TI g G a A m tc) : TI g G a A (m + 1) tc := by
  rcases h with h | ⟨h1, kc, i, h2, h3⟩
  · exact .inl h
  · exact .inr ⟨h1, kc, i, by omega, h3⟩
section UN
variable {g z : Nat → Int32} {a q u v b c y : Nat → Nat → Int32} {t tc : Nat} {TX : PH} {G Z : Nat → Int32} {W : Int64} {A B : Nat → Nat → Int32} {m n : Nat} {Vs : Nat → (Nat → Int32) → Int32 → Int32}
theorem j_set (hI : TIE g a q u v c y t tc TX G A m n Vs) (x y1 w : Int32) : JI mX10_set 4 mX11_set 5 [.int x, .int y1, .int w] (hX g a q u v z b c y t tc TX) (hC G Z W A B) := by
  have hO := hI.O
  obtain ⟨⟨⟨m1, m2, m6⟩, ⟨c1, c2, c6⟩, ⟨t1, t2, tt⟩, ⟨n1, n2, n160⟩, ag⟩, ⟨xl, xs, xa⟩, hP, hL, hW, hC, hM, hH⟩ := id hI
  obtain ⟨cd, en, L, hR, hT⟩ := xs t tt
  obtain ⟨hS1, hTV⟩ := xa t tt
  have hWk := hW.wok m6
  have hLq := hL.eq
  by_cases h4 : 0 ≤ x ∧ x ≤ 4
  · rcases upto4 h4 with e | e | e | e | e
    · subst e
      have r2 := set_0 (z := Z) (w := W) (b := B) t2 hS1 m2 m6 hWk y1 w
      by_cases h : 0 ≤ w ∧ w ≤ 99
      · simp only [if_pos h] at r2
        refine JI.ff (k_set0y hO y1 h) r2 rfl ag ?_
        exact INV.of ⟨⟨⟨m1, m2, m6⟩, ⟨c1, c2, c6⟩, ⟨t1, t2, tt⟩, ⟨n1, n2, n160⟩, rfl⟩, ⟨xl, xs, xa⟩, hP, hL, hW, hC, hM, hH⟩
      · simp only [if_neg h] at r2
        exact JI.ff (k_set0n hO y1 h) r2 rfl rfl (INV.of hI)
    · subst e
      have r2 := set_1 (z := Z) (w := W) (b := B) t2 hS1 m2 m6 hWk y1 w
      by_cases h : (0 ≤ y1 ∧ y1 ≤ 5) ∧ 0 ≤ w ∧ w ≤ 3
      · simp only [if_pos h] at r2
        obtain ⟨s, hs, rfl⟩ := st_nI h.1
        obtain ⟨d, hd, e⟩ := up3 h.2
        rw [nI_clamp (by omega)] at r2
        refine JI.ff (k_set1y hO hs h.2) r2 rfl (hLq s hs).symm ?_
        refine INV.of ⟨⟨⟨m1, m2, m6⟩, ⟨c1, c2, c6⟩, ⟨t1, t2, tt⟩, ⟨n1, n2, n160⟩, ag⟩, ⟨xl, xs, xa⟩, hP, ?_, hW, hC, hM, hH⟩
        rw [up2v, up2v, e]
        exact hL.put hd
      · simp only [if_neg h] at r2
        exact JI.ff (k_set1n hO h) r2 rfl rfl (INV.of hI)
    · subst e
      have r2 := set_2 (z := Z) (w := W) (b := B) t2 hS1 m2 m6 hWk y1 w
      rcases wit_dich m1 m2 (by omega) y1 with ⟨d1, d2⟩ | ⟨d1, d2, x, hx, rfl⟩
      · rw [if_neg (fun z => d2 z.1), if_neg (fun z => d2 z.1), if_neg (fun z => d2 z.1)] at r2
        exact JI.ff (k_set2w hO d1 w) r2 rfl rfl (INV.of hI)
      · obtain ⟨_, _, _, w1, w2, w3, w4⟩ := hW x hx
        by_cases h' : 0 ≤ w ∧ w ≤ 9
        · have h : (0 ≤ nI x ∧ nI x ≤ G 11 - 1) ∧ 0 ≤ w ∧ w ≤ 9 := ⟨d2, h'⟩
          simp only [if_pos h] at r2
          rw [show (3 * nI x).toNatClampNeg = 3 * x from ix_m0 (by omega)] at r2
          refine JI.ff (k_set2y hO m1 m6 hx h') r2 rfl w2.symm ?_
          exact INV.of ⟨⟨⟨m1, m2, m6⟩, ⟨c1, c2, c6⟩, ⟨t1, t2, tt⟩, ⟨n1, n2, n160⟩, ag⟩, ⟨xl, xs, xa⟩, hP, hL, hW.put2, hC, hM, hH⟩
        · have h : ¬ ((0 ≤ nI x ∧ nI x ≤ G 11 - 1) ∧ 0 ≤ w ∧ w ≤ 9) := fun z => h' z.2
          simp only [if_neg h] at r2
          exact JI.ff (k_set2n hO m1 m6 hx h') r2 rfl rfl (INV.of hI)
    · subst e
      have r2 := set_3 (z := Z) (w := W) (b := B) t2 hS1 m2 m6 hWk y1 w
      rcases wit_dich m1 m2 (by omega) y1 with ⟨d1, d2⟩ | ⟨d1, d2, x, hx, rfl⟩
      · rw [if_neg (fun z => d2 z.1), if_neg (fun z => d2 z.1), if_neg (fun z => d2 z.1)] at r2
        exact JI.ff (k_set3w hO d1 w) r2 rfl rfl (INV.of hI)
      · obtain ⟨_, _, _, w1, w2, w3, w4⟩ := hW x hx
        by_cases h' : 0 ≤ w ∧ w ≤ 63
        · have h : (0 ≤ nI x ∧ nI x ≤ G 11 - 1) ∧ 0 ≤ w ∧ w ≤ 63 := ⟨d2, h'⟩
          simp only [if_pos h] at r2
          rw [show (3 * nI x + 1).toNatClampNeg = 3 * x + 1 from ix1_c (by omega)] at r2
          refine JI.ff (k_set3y hO m1 m6 hx h') r2 rfl w3.symm ?_
          exact INV.of ⟨⟨⟨m1, m2, m6⟩, ⟨c1, c2, c6⟩, ⟨t1, t2, tt⟩, ⟨n1, n2, n160⟩, ag⟩, ⟨xl, xs, xa⟩, hP, hL, hW.put3 (up63 h.2), hC, hM, hH⟩
        · have h : ¬ ((0 ≤ nI x ∧ nI x ≤ G 11 - 1) ∧ 0 ≤ w ∧ w ≤ 63) := fun z => h' z.2
          simp only [if_neg h] at r2
          exact JI.ff (k_set3n hO m1 m6 hx h') r2 rfl rfl (INV.of hI)
    · subst e
      have r2 := set_4 (z := Z) (w := W) (b := B) t2 hS1 m2 m6 hWk y1 w
      rcases wit_dich m1 m2 (by omega) y1 with ⟨d1, d2⟩ | ⟨d1, d2, x, hx, rfl⟩
      · rw [if_neg (fun z => d2 z.1), if_neg (fun z => d2 z.1), if_neg (fun z => d2 z.1)] at r2
        exact JI.ff (k_set4w hO d1 w) r2 rfl rfl (INV.of hI)
      · obtain ⟨_, _, _, w1, w2, w3, w4⟩ := hW x hx
        by_cases h' : 0 ≤ w ∧ w ≤ 1
        · have h : (0 ≤ nI x ∧ nI x ≤ G 11 - 1) ∧ 0 ≤ w ∧ w ≤ 1 := ⟨d2, h'⟩
          simp only [if_pos h] at r2
          rw [show (3 * nI x + 2).toNatClampNeg = 3 * x + 2 from row_cl (j := 2) (by omega) (by decide)] at r2
          refine JI.ff (k_set4y hO m1 m6 hx h') r2 rfl w4.symm ?_
          exact INV.of ⟨⟨⟨m1, m2, m6⟩, ⟨c1, c2, c6⟩, ⟨t1, t2, tt⟩, ⟨n1, n2, n160⟩, ag⟩, ⟨xl, xs, xa⟩, hP, hL, hW.put4 (upto1 h.2), hC, hM, hH⟩
        · have h : ¬ ((0 ≤ nI x ∧ nI x ≤ G 11 - 1) ∧ 0 ≤ w ∧ w ≤ 1) := fun z => h' z.2
          simp only [if_neg h] at r2
          exact JI.ff (k_set4n hO m1 m6 hx h') r2 rfl rfl (INV.of hI)
  · exact JI.ff (k_set_no x y1 w h4) (set_no x y1 w h4) rfl rfl (INV.of hI)
theorem j_witness (hI : TIE g a q u v c y t tc TX G A m n Vs) (k1 k2 k3 : Int32) : JI mX10_witness 4 mX11_witness 4 [.int k1, .int k2, .int k3] (hX g a q u v z b c y t tc TX) (hC G Z W A B) := by
  have hO := hI.O
  obtain ⟨⟨⟨m1, m2, m6⟩, ⟨c1, c2, c6⟩, ⟨t1, t2, tt⟩, ⟨n1, n2, n160⟩, ag⟩, ⟨xl, xs, xa⟩, hP, hL, hW, hC, hM, hH⟩ := id hI
  obtain ⟨cd, en, L, hR, hT⟩ := xs t tt
  obtain ⟨hS1, hTV⟩ := xa t tt
  have hWk := hW.wok m6
  have hLq := hL.eq
  by_cases h : (0 ≤ k1 ∧ k1 ≤ 5) ∧ (0 ≤ k2 ∧ k2 ≤ 9) ∧ (0 ≤ k3 ∧ k3 ≤ 63)
  · by_cases h6 : m = 6
    · subst h6
      exact JI.ff (k_wit_full hO h m1) (witness_full k1 k2 k3 h m2) rfl rfl (INV.of hI)
    · refine JI.ff (k_wit_yes hO h m1 (by omega)) (witness_yes k1 k2 k3 h m2 (by omega)) rfl rfl ?_
      exact INV.of ⟨⟨⟨rfl, (nI_1 m), by omega⟩, ⟨c1, c2, c6⟩, ⟨t1, t2, tt⟩, ⟨n1, n2, n160⟩, ag⟩, ⟨xl, xs, xa⟩, hP, hL, hW.add (st_nI h.1) (up63 h.2.2), hC, hM.up, hH⟩
  · exact JI.ff (k_wit_no hO h) (witness_no k1 k2 k3 h) rfl rfl (INV.of hI)
theorem j_feed (hI : TIE g a q u v c y t tc TX G A m n Vs) (x : Int32) : JI mX10_feed 2 mX11_feed 2 [.int x] (hX g a q u v z b c y t tc TX) (hC G Z W A B) := by
  have hO := hI.O
  obtain ⟨⟨⟨m1, m2, m6⟩, ⟨c1, c2, c6⟩, ⟨t1, t2, tt⟩, ⟨n1, n2, n160⟩, ag⟩, ⟨xl, xs, xa⟩, hP, hL, hW, hC, hM, hH⟩ := id hI
  obtain ⟨cd, en, L, hR, hT⟩ := xs t tt
  obtain ⟨hS1, hTV⟩ := xa t tt
  have hWk := hW.wok m6
  have hLq := hL.eq
  by_cases h : 0 ≤ x ∧ x ≤ 255
  · by_cases h6 : n = 160
    · subst h6
      exact JI.ff (k_feed_full hO h n1) (feed_full x h n2) rfl rfl (INV.of hI)
    · refine JI.ff (k_feed_ok hO h n1 (by omega)) (feed_ok x h n2 (by omega)) rfl rfl ?_
      refine INV.of (n := n + 1) ⟨⟨⟨m1, m2, m6⟩, ⟨c1, c2, c6⟩, ⟨t1, t2, tt⟩, ⟨rfl, rfl, by omega⟩, ag⟩, ⟨xl, xs, xa⟩, ?_, hL, hW, hC, hM, hH⟩
      intro j hj
      rw [up2v, up2v]
      by_cases e : j = n
      · subst e; rw [pk_us, pk_us]; exact ⟨rfl, h⟩
      · rw [pk_un e, pk_un e]; exact hP j (by omega)
  · exact JI.ff (k_feed_no hO h) (feed_no x h) rfl rfl (INV.of hI)
theorem j_force (hI : TIE g a q u v c y t tc TX G A m n Vs) (x : Int32) : JI mX10_force 4 mX11_force 3 [.int x] (hX g a q u v z b c y t tc TX) (hC G Z W A B) := by
  have hO := hI.O
  obtain ⟨⟨⟨m1, m2, m6⟩, ⟨c1, c2, c6⟩, ⟨t1, t2, tt⟩, ⟨n1, n2, n160⟩, ag⟩, ⟨xl, xs, xa⟩, hP, hL, hW, hC, hM, hH⟩ := id hI
  obtain ⟨cd, en, L, hR, hT⟩ := xs t tt
  obtain ⟨hS1, hTV⟩ := xa t tt
  have hWk := hW.wok m6
  have hLq := hL.eq
  rcases wit_dich c1 c2 (by omega) x with ⟨d1, d2⟩ | ⟨d1, d2, i, hi, rfl⟩
  · exact JI.ff (k_force_no hO d1) (force_no x d2) rfl rfl (INV.of hI)
  · refine JI.ff (k_force_yes hO c1 c6 hi) (force_yes (nI i) d2) rfl (t1.trans t2.symm) ?_
    exact INV.of ⟨⟨⟨m1, m2, m6⟩, ⟨c1, c2, c6⟩, ⟨rfl, rfl, hi⟩, ⟨n1, n2, n160⟩, ag⟩, ⟨xl, xs, xa⟩, hP, hL, hW, hC, hM, hH⟩
theorem j_image (hI : TIE g a q u v c y t tc TX G A m n Vs) : JI mX10_image 1 mX11_image 2 [] (hX g a q u v z b c y t tc TX) (hC G Z W A B) := by
  have hO := hI.O
  obtain ⟨⟨⟨m1, m2, m6⟩, ⟨c1, c2, c6⟩, ⟨t1, t2, tt⟩, ⟨n1, n2, n160⟩, ag⟩, ⟨xl, xs, xa⟩, hP, hL, hW, hC, hM, hH⟩ := id hI
  obtain ⟨cd, en, L, hR, hT⟩ := xs t tt
  obtain ⟨hS1, hTV⟩ := xa t tt
  have hWk := hW.wok m6
  have hLq := hL.eq
  refine JI.mk (k_image hO m1 m6) image rfl (fun _ _ ⟨_, _, _, _, _, _, e1, e⟩ => ⟨by rw [e, hX_len]; omega, _, e1⟩) (fun _ _ ⟨_, e⟩ => by rw [e]; rfl) ?_
  rintro _ _ _ _ ⟨d', n', s', e', h1, ⟨h2, h3, h4⟩, rfl, rfl⟩ ⟨rfl, rfl⟩
  refine ⟨⟨_, rfl, by rw [m2]⟩, ?_⟩
  refine INV.of ⟨⟨⟨m1, m2, m6⟩, ⟨c1, c2, c6⟩, ⟨t1, t2, tt⟩, ⟨n1, n2, n160⟩, ag⟩, ⟨xl, xs, xa⟩, hP, hL, hW, hC, .inr ⟨?_, m, t, Nat.le_refl m, tt, rfl, m2, ag, t1, t2, ?_, ?_⟩, hH⟩
  · show ¬ (1 : Int32) = 0; decide
  · intro s hs
    obtain ⟨d, hd, q1, q2⟩ := hL s hs
    refine ⟨d, hd, (h1 s hs).trans q1, ?_⟩
    show (if s < 6 then A 4 s else _) = nI d
    rw [if_pos hs]; exact q2
  · intro x hx
    obtain ⟨_, hb, hs, w1, w2, w3, w4⟩ := hW x hx
    refine ⟨?_, ?_, ?_, ?_, ?_⟩
    · show bcOK (s' x); rw [h3 x hx]; exact hb
    · show e' x = 0 ∨ e' x = 1; rw [h4 x hx]; exact hs
    · show (if 3 * x < 18 then A 6 (3 * x) else _) = n' x
      rw [if_pos (by omega), h2 x hx]; exact w2
    · show (if 3 * x + 1 < 18 then A 6 (3 * x + 1) else _) = s' x
      rw [if_pos (by omega), h3 x hx]; exact w3
    · show (if 3 * x + 2 < 18 then A 6 (3 * x + 2) else _) = e' x
      rw [if_pos (by omega), h4 x hx]; exact w4
theorem j_back (hI : TIE g a q u v c y t tc TX G A m n Vs) : JI mX10_back 1 mX11_back 2 [] (hX g a q u v z b c y t tc TX) (hC G Z W A B) := by
  have hO := hI.O
  obtain ⟨⟨⟨m1, m2, m6⟩, ⟨c1, c2, c6⟩, ⟨t1, t2, tt⟩, ⟨n1, n2, n160⟩, ag⟩, ⟨xl, xs, xa⟩, hP, hL, hW, hC, hM, hH⟩ := id hI
  obtain ⟨cd, en, L, hR, hT⟩ := xs t tt
  obtain ⟨hS1, hTV⟩ := xa t tt
  have hWk := hW.wok m6
  have hLq := hL.eq
  rcases hM with ⟨g5, g34⟩ | ⟨g5, kc, i, hkc, hi, g8, g34, g6, g7, g36, hL12, hrow⟩
  · exact JI.ff (k_back_no g5) (back_no g34) rfl rfl (INV.of hI)
  · have hn : ¬ G 34 = -1 := by rw [g34]; exact nI_m1' (by omega)
    refine JI.mk (k_back_yes hO c1 c6 g5 g8 (by omega) g7 hi) (back_yes hn) rfl (fun _ _ ⟨_, _, _, _, e1, e⟩ => ⟨by rw [e, hX_len]; omega, _, e1⟩) (fun _ _ ⟨_, e⟩ => by rw [e]; rfl) ?_
    rintro _ _ _ _ ⟨l', q', h1, ⟨h2, h3⟩, rfl, rfl⟩ ⟨rfl, rfl⟩
    refine ⟨⟨_, rfl, by rw [g34]⟩, ?_⟩
    refine INV.of (m := kc) (n := n) (Vs := Vs) ⟨⟨⟨rfl, g34, by omega⟩, ⟨c1, c2, c6⟩, ⟨rfl, g36, hi⟩, ⟨n1, n2, n160⟩, g6⟩, ⟨xl, xs, xa⟩, hP, ?_, ?_, hC, .inr ⟨g5, kc, i, Nat.le_refl _, hi, g8, g34, g6, g7, g36, hL12, hrow⟩, hH⟩
    · intro s hs
      obtain ⟨d, hd, q1, q2⟩ := hL12 s hs
      refine ⟨d, hd, (h1 s hs).trans q1, ?_⟩
      show (if s < 6 then A 12 s else _) = nI d
      rw [if_pos hs]; exact q2
    · intro x hx
      obtain ⟨hk, _, _, w1, _⟩ := hW x (by omega)
      obtain ⟨hb, he, r1, r2, r3⟩ := hrow x hx
      obtain ⟨p1, p2, p3, p4⟩ := h2 x hx
      refine ⟨by rw [p1]; exact hk, by rw [p3]; exact hb, by rw [p4]; exact he, by rw [p1]; exact w1, ?_, ?_, ?_⟩
      · show (if 3 * x < 18 then A 13 (3 * x) else _) = q' x 2
        rw [if_pos (by omega), p2]; exact r1
      · show (if 3 * x + 1 < 18 then A 13 (3 * x + 1) else _) = q' x 3
        rw [if_pos (by omega), p3]; exact r2
      · show (if 3 * x + 2 < 18 then A 13 (3 * x + 2) else _) = q' x 4
        rw [if_pos (by omega), p4]; exact r3
end UN
