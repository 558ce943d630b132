theorem hse1 {q A : Nat → Nat → Int32} {m : Nat} (hW : TW q A m) (m6 : m ≤ 6) : ∃ v, v < 64 ∧ sentV (A 6) m = nI v := by
  rw [hW.sent m6]; exact sbw_lt q m6
theorem hse2 {q A : Nat → Nat → Int32} {m : Nat} (hW : TW q A m) (m6 : m ≤ 6) : zz 7 (sentV (A 6) m) = true := by
  obtain ⟨v, hv, e⟩ := hse1 hW m6
  rw [e]; exact zz_64 v hv
/-! ===== methods that leave all as it was (wip/tools/m_tie1.py) ===== -/
section UN
variable {g z : Nat → Int32} {a q u v b c y : Nat → Nat → Int32} {t tc : Nat} {TX : PH} {G Z : Nat → Int32} {W : Int64} {A B : Nat → Nat → Int32} {m n : Nat} {Vs : Nat → (Nat → Int32) → Int32 → Int32}
theorem j_told (hI : TIE g a q u v c y t tc TX G A m n Vs) (of what : Int32) : JI mX10_told 4 mX11_told 3 [.int of, .int what] (hX g a q u v z b c y t tc TX) (hC G Z W A B) := by
  have hO := hI.O
  obtain ⟨⟨⟨m1, m2, m6⟩, ⟨c1, c2, c6⟩, ⟨t1, t2, tt⟩, ⟨n1, n2, n160⟩, ag⟩, ⟨xl, xs, xa⟩, hP, hL, hW, hC, hM, hH⟩ := id hI
  obtain ⟨cd, en, L, hR, hT⟩ := xs t tt
  obtain ⟨hS1, hTV⟩ := xa t tt
  have hWk := hW.wok m6
  have hLq := hL.eq
  by_cases h0 : what = 0
  · subst h0
    exact JI.ee hI (P0.ex hC (k_told0 of)) (P0.b0 (told_0 t2 hS1 m2 m6 hWk of)) rfl ag
  by_cases h1 : what = 1
  · subst h1
    by_cases h : 0 ≤ of ∧ of ≤ 5
    · obtain ⟨s, hs, rfl⟩ := st_nI h
      refine JI.ee hI (P0.ex hC (k_told1y hO hs)) (P0.b0 (told_1 t2 hS1 m2 m6 hWk _)) rfl ?_
      rw [if_pos h, nI_clamp (by omega), hLq s hs]
    · refine JI.ee hI (P0.ex hC (k_told1n hO h)) (P0.b0 (told_1 t2 hS1 m2 m6 hWk _)) rfl ?_
      rw [if_neg h]
  rcases wit_dich m1 m2 (by omega) of with ⟨d1, d2⟩ | ⟨d1, d2, x, hx, rfl⟩
  · rcases told_dich h0 h1 with h | h | h | h | h | h | h | h | h | h | h | ⟨h6, h15⟩
    · subst h; exact JI.ee hI (P0.ex hC (k_told_nw hO d1 h0 h1)) (P0.b0 (told_2 t2 hS1 m2 m6 hWk _)) rfl (if_neg d2).symm
    · subst h; exact JI.ee hI (P0.ex hC (k_told_nw hO d1 h0 h1)) (P0.b0 (told_3 t2 hS1 m2 m6 hWk _)) rfl (if_neg d2).symm
    · subst h; exact JI.ee hI (P0.ex hC (k_told_nw hO d1 h0 h1)) (P0.b0 (told_4 t2 hS1 m2 m6 hWk _)) rfl (if_neg d2).symm
    · subst h; exact JI.ee hI (P0.ex hC (k_told_nw hO d1 h0 h1)) (P0.b0 (told_5 t2 hS1 m2 m6 hWk _)) rfl (if_neg d2).symm
    · subst h; exact JI.ee hI (P0.ex hC (k_told_nw hO d1 h0 h1)) (P0.wb (told_6 t2 hS1 m2 m6 hWk _)) rfl (if_neg d2).symm
    · subst h; exact JI.ee hI (P0.ex hC (k_told_nw hO d1 h0 h1)) (P0.wb (told_10 t2 hS1 m2 m6 hWk _)) rfl (if_neg d2).symm
    · subst h; exact JI.ee hI (P0.ex hC (k_told_nw hO d1 h0 h1)) (P0.wb (told_11 t2 hS1 m2 m6 hWk _)) rfl (if_neg d2).symm
    · subst h; exact JI.ee hI (P0.ex hC (k_told_nw hO d1 h0 h1)) (P0.wb (told_12 t2 hS1 m2 m6 hWk _)) rfl (if_neg d2).symm
    · subst h; exact JI.ee hI (P0.ex hC (k_told_nw hO d1 h0 h1)) (P0.wb (told_13 t2 hS1 m2 m6 hWk _)) rfl (if_neg d2).symm
    · subst h; exact JI.ee hI (P0.ex hC (k_told_nw hO d1 h0 h1)) (P0.wb (told_14 t2 hS1 m2 m6 hWk _)) rfl (if_neg d2).symm
    · subst h; exact JI.ee hI (P0.ex hC (k_told_nw hO d1 h0 h1)) (P0.wb (told_15 t2 hS1 m2 m6 hWk _)) rfl (if_neg d2).symm
    · exact JI.ee hI (P0.ex hC (k_told_nw hO d1 h0 h1)) (P0.b0 (told_no of what h6 h15)) rfl rfl
  · obtain ⟨_, _, _, w1, w2, w3, w4⟩ := hW x hx
    rcases told_dich h0 h1 with h | h | h | h | h | h | h | h | h | h | h | ⟨h6, h15⟩
    · subst h; refine JI.ee hI (P0.ex hC (k_told2 hO m1 m6 hx)) (P0.b0 (told_2 t2 hS1 m2 m6 hWk _)) rfl ?_
      rw [if_pos d2, show (3 * nI x).toNatClampNeg = 3 * x from ix_m0 (by omega), w2]
    · subst h; refine JI.ee hI (P0.ex hC (k_told3 hO m1 m6 hx)) (P0.b0 (told_3 t2 hS1 m2 m6 hWk _)) rfl ?_
      rw [if_pos d2, show (3 * nI x + 1).toNatClampNeg = 3 * x + 1 from ix1_c (by omega), w3]
    · subst h; refine JI.ee hI (P0.ex hC (k_told4 hO m1 m6 hx)) (P0.b0 (told_4 t2 hS1 m2 m6 hWk _)) rfl ?_
      rw [if_pos d2, show (3 * nI x + 2).toNatClampNeg = 3 * x + 2 from row_cl (j := 2) (by omega) (by decide), w4]
    · subst h; refine JI.ee hI (P0.ex hC (k_told5 hO m1 m6 hx)) (P0.b0 (told_5 t2 hS1 m2 m6 hWk _)) rfl ?_
      rw [if_pos d2, show (nI x).toNatClampNeg = x from nI_clamp (by omega), w1]
    · subst h; refine JI.ee hI (k_told6 hO m1 m6 hW.K hW.S hR hT t1 tt c6 hC hx) (P0.wb (told_6 t2 hS1 m2 m6 hWk _)) rfl ?_
      rw [if_pos d2, hW.cost m6 hTV hx, ag]
    · subst h; refine JI.ee hI (k_told10 hO m1 m6 hW.K hW.S hR hT t1 tt c6 hC hx) (P0.wb (told_10 t2 hS1 m2 m6 hWk _)) rfl ?_
      rw [if_pos d2]
      refine Eq.trans ?_ (now_c (s := 0) hTV (by omega) (by decide) w1 w2 w3 hLq).symm
      rw [← ag]; rfl
    · subst h; refine JI.ee hI (k_told11 hO m1 m6 hW.K hW.S hR hT t1 tt c6 hC hx) (P0.wb (told_11 t2 hS1 m2 m6 hWk _)) rfl ?_
      rw [if_pos d2]
      refine Eq.trans ?_ (now_c (s := 1) hTV (by omega) (by decide) w1 w2 w3 hLq).symm
      rw [← ag]; rfl
    · subst h; refine JI.ee hI (k_told12 hO m1 m6 hW.K hW.S hR hT t1 tt c6 hC hx) (P0.wb (told_12 t2 hS1 m2 m6 hWk _)) rfl ?_
      rw [if_pos d2]
      refine Eq.trans ?_ (now_c (s := 2) hTV (by omega) (by decide) w1 w2 w3 hLq).symm
      rw [← ag]; rfl
    · subst h; refine JI.ee hI (k_told13 hO m1 m6 hW.K hW.S hR hT t1 tt c6 hC hx) (P0.wb (told_13 t2 hS1 m2 m6 hWk _)) rfl ?_
      rw [if_pos d2]
      refine Eq.trans ?_ (now_c (s := 3) hTV (by omega) (by decide) w1 w2 w3 hLq).symm
      rw [← ag]; rfl
    · subst h; refine JI.ee hI (k_told14 hO m1 m6 hW.K hW.S hR hT t1 tt c6 hC hx) (P0.wb (told_14 t2 hS1 m2 m6 hWk _)) rfl ?_
      rw [if_pos d2]
      refine Eq.trans ?_ (now_c (s := 4) hTV (by omega) (by decide) w1 w2 w3 hLq).symm
      rw [← ag]; rfl
    · subst h; refine JI.ee hI (k_told15 hO m1 m6 hW.K hW.S hR hT t1 tt c6 hC hx) (P0.wb (told_15 t2 hS1 m2 m6 hWk _)) rfl ?_
      rw [if_pos d2]
      refine Eq.trans ?_ (now_c (s := 5) hTV (by omega) (by decide) w1 w2 w3 hLq).symm
      rw [← ag]; rfl
    · exact JI.ee hI (P0.ex hC (k_told_no hO m1 m6 hx h6 h15)) (P0.b0 (told_no _ what h6 h15)) rfl rfl
theorem j_wrong (hI : TIE g a q u v c y t tc TX G A m n Vs) : JI mX10_wrong 3 mX11_wrong 4 [] (hX g a q u v z b c y t tc TX) (hC G Z W A B) := by
  have hO := hI.O
  obtain ⟨⟨⟨m1, m2, m6⟩, ⟨c1, c2, c6⟩, ⟨t1, t2, tt⟩, ⟨n1, n2, n160⟩, ag⟩, ⟨xl, xs, xa⟩, hP, hL, hW, hC, hM, hH⟩ := id hI
  obtain ⟨cd, en, L, hR, hT⟩ := xs t tt
  obtain ⟨hS1, hTV⟩ := xa t tt
  have hWk := hW.wok m6
  have hLq := hL.eq
  refine JI.mk (wrong_n hO m1 m6 hW.K hW.S hR hT) (e_X11_wrong t2 hS1 m2 m6 hWk) rfl (fun _ _ ⟨_, _, e1, e⟩ => ⟨by rw [e, hX_len]; omega, _, e1⟩) (fun _ _ ⟨_, _, _, e⟩ => by rw [e]; rfl) ?_
  rintro _ _ _ _ ⟨z', sk', rfl, rfl⟩ ⟨z2, w2, rfl, rfl⟩
  refine ⟨⟨_, rfl, ?_⟩, INV.of hI⟩
  rw [hW.wro m6 hTV hLq, ag]
theorem j_count (hI : TIE g a q u v c y t tc TX G A m n Vs) (x : Int32) : JI mX10_count 2 mX11_count 2 [.int x] (hX g a q u v z b c y t tc TX) (hC G Z W A B) := by
  have hO := hI.O
  obtain ⟨⟨⟨m1, m2, m6⟩, ⟨c1, c2, c6⟩, ⟨t1, t2, tt⟩, ⟨n1, n2, n160⟩, ag⟩, ⟨xl, xs, xa⟩, hP, hL, hW, hC, hM, hH⟩ := id hI
  obtain ⟨cd, en, L, hR, hT⟩ := xs t tt
  obtain ⟨hS1, hTV⟩ := xa t tt
  have hWk := hW.wok m6
  have hLq := hL.eq
  by_cases h : 0 ≤ x ∧ x ≤ 4
  · rcases upto4 h with h | h | h | h | h
    · subst h; exact JI.ff k_count0 (count_0 m2 m6 (hse1 hW m6)) rfl (m1.trans m2.symm) (INV.of hI)
    · subst h; refine JI.ff (k_count1 hO m1 m6) (count_1 m2 m6 (hse2 hW m6)) rfl ?_ (INV.of hI)
      rw [hW.sent m6]
    · subst h; exact JI.ff k_count2 (count_2 m2 m6 (hse1 hW m6)) rfl (c1.trans c2.symm) (INV.of hI)
    · subst h; exact JI.ff k_count3 (count_3 m2 m6 (hse1 hW m6)) rfl (n1.trans n2.symm) (INV.of hI)
    · subst h; exact JI.ff k_count4 (count_4 m2 m6 (hse1 hW m6)) rfl (t1.trans t2.symm) (INV.of hI)
  · exact JI.ff (k_count_no h) (count_no x h) rfl rfl (INV.of hI)
end UN
