/-! ===== taken, sheets (wip/tools/m_tie5.py) ===== -/
theorem und_0 {k P Q : Int32} (hk : 0 ≤ k ∧ k ≤ 5) : (if undB 0 k = true then P else Q) = if 0 = k then P else Q := by
  rcases upto5 hk with e | e | e | e | e | e <;> subst e <;> rfl
theorem und_1 {k P Q : Int32} (hk : 0 ≤ k ∧ k ≤ 5) : (if undB 1 k = true then P else Q) = if 1 = k then P else if 0 = k then P else Q := by
  rcases upto5 hk with e | e | e | e | e | e <;> subst e <;> rfl
theorem und_2 {k P Q : Int32} (hk : 0 ≤ k ∧ k ≤ 5) : (if undB 2 k = true then P else Q) = if 2 = k then P else if 0 = k then P else Q := by
  rcases upto5 hk with e | e | e | e | e | e <;> subst e <;> rfl
theorem und_3 {k P Q : Int32} (hk : 0 ≤ k ∧ k ≤ 5) : (if undB 3 k = true then P else Q) = if 3 = k then P else if 1 = k then P else if 0 = k then P else Q := by
  rcases upto5 hk with e | e | e | e | e | e <;> subst e <;> rfl
theorem und_4 {k P Q : Int32} (hk : 0 ≤ k ∧ k ≤ 5) : (if undB 4 k = true then P else Q) = if 4 = k then P else if 2 = k then P else if 0 = k then P else Q := by
  rcases upto5 hk with e | e | e | e | e | e <;> subst e <;> rfl
theorem und_5 {k P Q : Int32} (hk : 0 ≤ k ∧ k ≤ 5) : (if undB 5 k = true then P else Q) = if 5 = k then P else if 0 = k then P else Q := by
  rcases upto5 hk with e | e | e | e | e | e <;> subst e <;> rfl
theorem TH.put {u v A u' v' A' : Nat → Nat → Int32} (h : TH u v A) {j : Nat} (hj : THj u' v' A' j) (hn : ∀ i, i < 4 → i ≠ j → u' i = u i ∧ v' i = v i ∧ A' 14 i = A 14 i ∧ A' 15 i = A 15 i ∧ A' 16 i = A 16 i ∧ ∀ k, k < 40 → A' 17 (40 * i + k) = A 17 (40 * i + k)) : TH u' v' A' := fun i hi => by
  by_cases e : i = j
  · rw [e]; exact hj
  · obtain ⟨e1, e2, e3, e4, e5, e6⟩ := hn i hi e
    rcases h i hi with ⟨q1, q2⟩ | ⟨q1, q2, k, hk, so, q3, q4, q5, q6⟩
    · exact .inl ⟨e3.trans q1, by rw [e1]; exact q2⟩
    · exact .inr ⟨by rw [e3]; exact q1, by rw [e1]; exact q2, k, hk, by rw [e4]; exact so, by rw [e1, e4]; exact q3, by rw [e1]; exact q4, by rw [e5]; exact q5, fun x hx => by rw [e2, e6 x (by omega)]; exact q6 x hx⟩
theorem zer_at {j : Nat} {f : Nat → Int32} : ∀ k y, it (zerF j) k f y = if 40 * j ≤ y ∧ y < 40 * j + k then 0 else f y
  | 0, y => (if_neg (by omega)).symm
  | k + 1, y => by
    rw [it_succ]
    show upd (it (zerF j) k f) (40 * j + k) 0 y = _
    by_cases e : y = 40 * j + k
    · rw [e, pk_us, if_pos (by omega)]
    · rw [pk_un e, zer_at k y]
      by_cases h : 40 * j ≤ y ∧ y < 40 * j + k
      · rw [if_pos h, if_pos (by omega)]
      · rw [if_neg h, if_neg (by omega)]
theorem int_eq {a b : Int32} (h : a.toInt = b.toInt) : a = b := Int32.toInt_inj.mp h
theorem so_dich {so : Int32} (h : -1 ≤ so ∧ so ≤ 2) : so = -1 ∨ so = 0 ∨ so = 1 ∨ so = 2 := by
  by_cases h0 : 0 ≤ so
  · rcases upto4 (le_more (by decide) ⟨h0, h.2⟩) with e | e | e | e | e
    · exact .inr (.inl e)
    · exact .inr (.inr (.inl e))
    · exact .inr (.inr (.inr e))
    · rw [e] at h; exact absurd h.2 (by decide)
    · rw [e] at h; exact absurd h.2 (by decide)
  · left
    apply int_eq
    have h1 := Int32.le_iff_toInt_le.mp h.1
    have h2 := Int32.lt_iff_toInt_lt.mp (Int32.not_le.mp h0)
    have e1 : (-1 : Int32).toInt = -1 := by decide
    have e2 : (0 : Int32).toInt = 0 := by decide
    omega
/-- a span in a sheet of so many items -/
theorem cp_dich {x n : Int32} {k : Nat} (hk : k ≤ 40) : (∃ p r, x = nI p ∧ n = nI r ∧ p + r ≤ k ∧ (0 ≤ x ∧ 0 ≤ n ∧ x ≤ nI k ∧ n ≤ nI k - x)) ∨ (¬ (0 ≤ x ∧ 0 ≤ n ∧ x ≤ nI k ∧ n ≤ nI k - x) ∧ (n < 0 ∨ x < 0 ∨ nI k - n < x)) := by
  by_cases hn : n < 0
  · exact .inr ⟨fun z => Int32.not_le.mpr hn z.2.1, .inl hn⟩
  by_cases hx : x < 0
  · exact .inr ⟨fun z => Int32.not_le.mpr hx z.1, .inr (.inl hx)⟩
  obtain ⟨p, hp, rfl⟩ := nI_of hx
  obtain ⟨r, hr, rfl⟩ := nI_of hn
  have tk : (nI k).toInt = (k : Int) := nI_toInt (by omega)
  have tp : (nI p).toInt = (p : Int) := nI_toInt hp
  have tr : (nI r).toInt = (r : Int) := nI_toInt hr
  have s1 : (nI k - nI p).toInt = (k : Int) - p := by
    rw [Int32.toInt_sub, tk, tp]; exact Int.bmod_eq_of_le (by omega) (by omega)
  have s2 : (nI k - nI r).toInt = (k : Int) - r := by
    rw [Int32.toInt_sub, tk, tr]; exact Int.bmod_eq_of_le (by omega) (by omega)
  by_cases h : p + r ≤ k
  · exact .inl ⟨p, r, rfl, rfl, h, nI_pos' hp, nI_pos' hr, nI_le (by omega) (by omega), by rw [Int32.le_iff_toInt_le, s1, tr]; omega⟩
  · refine .inr ⟨fun z => ?_, .inr (.inr ?_)⟩
    · have := z.2.2.2
      rw [Int32.le_iff_toInt_le, s1, tr] at this
      omega
    · rw [Int32.lt_iff_toInt_lt, s2, tp]; omega
section UN
variable {g z : Nat → Int32} {a q u v b c y : Nat → Nat → Int32} {t tc : Nat} {TX : PH} {G Z : Nat → Int32} {W : Int64} {A B : Nat → Nat → Int32} {m n : Nat} {Vs : Nat → (Nat → Int32) → Int32 → Int32}
theorem j_taken (hI : TIE g a q u v c y t tc TX G A m n Vs) (x k : Int32) : JI mX10_taken 4 mX11_taken 4 [.int x, .int k] (hX g a q u v z b c y t tc TX) (hC G Z W A B) := by
  have hO := hI.O
  obtain ⟨⟨⟨m1, m2, m6⟩, ⟨c1, c2, c6⟩, ⟨t1, t2, tt⟩, ⟨n1, n2, n160⟩, ag⟩, ⟨xl, xs, xa⟩, hP, hL, hW, hC, hM, hH⟩ := id hI
  obtain ⟨cd, en, L, hR, hT⟩ := xs t tt
  obtain ⟨hS1, hTV⟩ := xa t tt
  have hWk := hW.wok m6
  have hLq := hL.eq
  by_cases hk : 0 ≤ k ∧ k ≤ 5
  · rcases wit_dich m1 m2 (by omega) x with ⟨d1, d2⟩ | ⟨d1, d2, i, hi, rfl⟩
    · exact JI.ff (k_taken_w hO d1 hk) (taken_x x k hk d2) rfl rfl (INV.of hI)
    · obtain ⟨⟨kk, hkk, ek⟩, _, _, w1, w2, w3, w4⟩ := hW i hi
      have h6 : vp_in (nI i) 6 := nI_vp (by omega) (by decide)
      have h18 : vp_in (3 * nI i) 18 := row_in0 (by omega)
      have e3 : (3 * nI i).toNatClampNeg = 3 * i := ix_m0 (by omega)
      have hc : A 5 (nI i).toNatClampNeg = nI kk := by rw [nI_clamp (by omega), w1, ek]
      match kk, hkk with
      | 0, _ =>
        refine JI.ff (k_taken hO m1 m6 hW.K hW.S hi hk) (taken_0 (nI i) k hk d2 h6 h18 hc) rfl ?_ (INV.of hI)
        rw [e3, w2, ek]
        exact und_0 hk
      | 1, _ =>
        refine JI.ff (k_taken hO m1 m6 hW.K hW.S hi hk) (taken_1 (nI i) k hk d2 h6 h18 hc) rfl ?_ (INV.of hI)
        rw [e3, w2, ek]
        exact und_1 hk
      | 2, _ =>
        refine JI.ff (k_taken hO m1 m6 hW.K hW.S hi hk) (taken_2 (nI i) k hk d2 h6 h18 hc) rfl ?_ (INV.of hI)
        rw [e3, w2, ek]
        exact und_2 hk
      | 3, _ =>
        refine JI.ff (k_taken hO m1 m6 hW.K hW.S hi hk) (taken_3 (nI i) k hk d2 h6 h18 hc) rfl ?_ (INV.of hI)
        rw [e3, w2, ek]
        exact und_3 hk
      | 4, _ =>
        refine JI.ff (k_taken hO m1 m6 hW.K hW.S hi hk) (taken_4 (nI i) k hk d2 h6 h18 hc) rfl ?_ (INV.of hI)
        rw [e3, w2, ek]
        exact und_4 hk
      | 5, _ =>
        refine JI.ff (k_taken hO m1 m6 hW.K hW.S hi hk) (taken_5 (nI i) k hk d2 h6 h18 hc) rfl ?_ (INV.of hI)
        rw [e3, w2, ek]
        exact und_5 hk
      | kk + 6, h => omega
  · exact JI.ff (k_taken_k hO hk) (taken_k x k hk) rfl rfl (INV.of hI)
theorem TH.new (hH : TH u v A) {j k : Nat} (hj : j < 4) (hk : k ≤ 40) {so : Int32} (h : 0 ≤ so ∧ so ≤ 2) : TH (up2 u j (uw so (nI k))) (up2 v j (filV (v j) 40 0)) (up2 (up2 (up2 (up2 A 14 (upd (A 14) j 1)) 15 (upd (A 15) j so)) 16 (upd (A 16) j (nI k))) 17 (it (zerF j) k (A 17))) := by
  refine hH.put (j := j) (.inr ⟨?_, ?_, k, hk, ?_, ?_, ?_, ?_, fun x hx => ?_⟩) (fun i hi e => ⟨up2_n e, up2_n e, pk_un e, pk_un e, pk_un e, fun x hx => ?_⟩)
  · show ¬ upd (A 14) j 1 j = 0
    rw [pk_us]; decide
  · rw [up2_s]
    show ¬ so = -1
    intro z; rw [z] at h; exact absurd h.1 (by decide)
  · show 0 ≤ upd (A 15) j so j ∧ upd (A 15) j so j ≤ 2
    rw [pk_us]; exact h
  · rw [up2_s]; show so = upd (A 15) j so j; rw [pk_us]
  · rw [up2_s]; rfl
  · show upd (A 16) j (nI k) j = nI k; rw [pk_us]
  · rw [up2_s, up2v, zer_at, if_pos (by omega)]
    exact if_pos (by omega)
  · rw [up2v, zer_at, if_neg (by omega)]
theorem TH.mis (hH : TH u v A) {j : Nat} (hj : j < 4) (n : Int32) : TH (up2 u j (uw (-1) 0)) (up2 v j (filV (v j) 40 0)) (up2 (up2 (up2 A 14 (upd (A 14) j 0)) 15 (upd (A 15) j (-1))) 16 (upd (A 16) j n)) := by
  refine hH.put (j := j) (.inl ⟨?_, ?_⟩) (fun i hi e => ⟨up2_n e, up2_n e, pk_un e, pk_un e, pk_un e, fun x hx => rfl⟩)
  · show upd (A 14) j 0 j = 0
    rw [pk_us]
  · rw [up2_s]; rfl
theorem j_sheet (hI : TIE g a q u v c y t tc TX G A m n Vs) (s so w : Int32) : JI mX10_sheet 5 mX11_sheet 5 [.int s, .int so, .int w] (hX g a q u v z b c y t tc TX) (hC G Z W A B) := by
  have hO := hI.O
  obtain ⟨⟨⟨m1, m2, m6⟩, ⟨c1, c2, c6⟩, ⟨t1, t2, tt⟩, ⟨n1, n2, n160⟩, ag⟩, ⟨xl, xs, xa⟩, hP, hL, hW, hC, hM, hH⟩ := id hI
  obtain ⟨cd, en, L, hR, hT⟩ := xs t tt
  obtain ⟨hS1, hTV⟩ := xa t tt
  have hWk := hW.wok m6
  have hLq := hL.eq
  rcases sh_dich s with ⟨s1, s2⟩ | ⟨s1, s2, j, hj, rfl⟩
  · exact JI.ff (k_sheet_bad hO s1 so w) (sheet_bad s so w s2) rfl rfl (INV.of hI)
  by_cases h : -1 ≤ so ∧ so ≤ 2
  · rcases so_dich h with e | e | e | e
    · subst e
      refine JI.ff (k_sheet_miss hO hj w) (sheet_miss hj w) rfl rfl ?_
      exact INV.of ⟨⟨⟨m1, m2, m6⟩, ⟨c1, c2, c6⟩, ⟨t1, t2, tt⟩, ⟨n1, n2, n160⟩, ag⟩, ⟨xl, xs, xa⟩, hP, hL, hW, hC, hM, hH.mis hj w⟩
    · subst e
      have h02 : (0 : Int32) ≤ 0 ∧ (0 : Int32) ≤ 2 := by decide
      rcases nI_dich w with hw | hw | ⟨k, hk, rfl⟩
      · exact JI.ff (k_sheet_neg hO hj h02 hw (Int32.le_of_lt (Int32.lt_trans hw (by decide)))) (sheet_neg_0 (nI j) w s2 hw) rfl rfl (INV.of hI)
      · exact JI.ff (k_sheet_big hO hj h02 hw) (sheet_big_0 (nI j) w s2 hw) rfl rfl (INV.of hI)
      · refine JI.ff (k_sheet_ok hO hj h02 hk) (sheet_ok_0 hj hk) rfl rfl ?_
        exact INV.of ⟨⟨⟨m1, m2, m6⟩, ⟨c1, c2, c6⟩, ⟨t1, t2, tt⟩, ⟨n1, n2, n160⟩, ag⟩, ⟨xl, xs, xa⟩, hP, hL, hW, hC, hM, hH.new hj hk h02⟩
    · subst e
      have h02 : (0 : Int32) ≤ 1 ∧ (1 : Int32) ≤ 2 := by decide
      rcases nI_dich w with hw | hw | ⟨k, hk, rfl⟩
      · exact JI.ff (k_sheet_neg hO hj h02 hw (Int32.le_of_lt (Int32.lt_trans hw (by decide)))) (sheet_neg_1 (nI j) w s2 hw) rfl rfl (INV.of hI)
      · exact JI.ff (k_sheet_big hO hj h02 hw) (sheet_big_1 (nI j) w s2 hw) rfl rfl (INV.of hI)
      · refine JI.ff (k_sheet_ok hO hj h02 hk) (sheet_ok_1 hj hk) rfl rfl ?_
        exact INV.of ⟨⟨⟨m1, m2, m6⟩, ⟨c1, c2, c6⟩, ⟨t1, t2, tt⟩, ⟨n1, n2, n160⟩, ag⟩, ⟨xl, xs, xa⟩, hP, hL, hW, hC, hM, hH.new hj hk h02⟩
    · subst e
      have h02 : (0 : Int32) ≤ 2 ∧ (2 : Int32) ≤ 2 := by decide
      rcases nI_dich w with hw | hw | ⟨k, hk, rfl⟩
      · exact JI.ff (k_sheet_neg hO hj h02 hw (Int32.le_of_lt (Int32.lt_trans hw (by decide)))) (sheet_neg_2 (nI j) w s2 hw) rfl rfl (INV.of hI)
      · exact JI.ff (k_sheet_big hO hj h02 hw) (sheet_big_2 (nI j) w s2 hw) rfl rfl (INV.of hI)
      · refine JI.ff (k_sheet_ok hO hj h02 hk) (sheet_ok_2 hj hk) rfl rfl ?_
        exact INV.of ⟨⟨⟨m1, m2, m6⟩, ⟨c1, c2, c6⟩, ⟨t1, t2, tt⟩, ⟨n1, n2, n160⟩, ag⟩, ⟨xl, xs, xa⟩, hP, hL, hW, hC, hM, hH.new hj hk h02⟩
  · exact JI.ff (k_sheet_sort hO hj h w) (sheet_sort (nI j) so w s2 h) rfl rfl (INV.of hI)
theorem TH.cel (hH : TH u v A) {j i k : Nat} (hj : j < 4) (hi : i < k) (hk : k ≤ 40) {X : Int32} (a14 : ¬ A 14 j = 0) (u1 : ¬ u j 1 = -1) (so : 0 ≤ A 15 j ∧ A 15 j ≤ 2) (e1 : u j 1 = A 15 j) (e2 : u j 2 = nI k) (e3 : A 16 j = nI k) (e4 : ∀ i, i < k → v j i = A 17 (40 * j + i)) : TH u (up2 v j (upd (v j) i X)) (up2 A 17 (upd (A 17) (40 * j + i) X)) := by
  refine hH.put (j := j) (.inr ⟨a14, u1, k, hk, so, e1, e2, e3, fun x hx => ?_⟩) (fun y hy e => ⟨rfl, up2_n e, rfl, rfl, rfl, fun x hx => ?_⟩)
  · rw [up2_s, up2v]
    by_cases e : x = i
    · subst e; rw [pk_us, pk_us]
    · rw [pk_un e, pk_un (by omega)]; exact e4 x hx
  · rw [up2v, pk_un (by omega)]
theorem j_cell (hI : TIE g a q u v c y t tc TX G A m n Vs) (s x w : Int32) : JI mX10_cell 5 mX11_cell 4 [.int s, .int x, .int w] (hX g a q u v z b c y t tc TX) (hC G Z W A B) := by
  have hO := hI.O
  obtain ⟨⟨⟨m1, m2, m6⟩, ⟨c1, c2, c6⟩, ⟨t1, t2, tt⟩, ⟨n1, n2, n160⟩, ag⟩, ⟨xl, xs, xa⟩, hP, hL, hW, hC, hM, hH⟩ := id hI
  obtain ⟨cd, en, L, hR, hT⟩ := xs t tt
  obtain ⟨hS1, hTV⟩ := xa t tt
  have hWk := hW.wok m6
  have hLq := hL.eq
  rcases sh_dich s with ⟨s1, s2⟩ | ⟨s1, s2, j, hj, rfl⟩
  · exact JI.ff (k_cell_bad hO s1 x w) (cell_bad s x w s2) rfl rfl (INV.of hI)
  rcases hH.of hj with ⟨a14, u1⟩ | ⟨a14, u1, k, hk, so, e1, e2, e3, e4⟩
  · exact JI.ff (k_cell_none hO hj x w u1) (cell_none hj x w a14) rfl rfl (INV.of hI)
  rcases wit_dich e2 e3 (by omega) x with ⟨d1, d2⟩ | ⟨d1, d2, i, hi, rfl⟩
  · exact JI.ff (k_cell_out hO hj w u1 d1) (cell_out hj x w a14 d2) rfl rfl (INV.of hI)
  have hx := k_cell_ok (z := z) (b := b) (c := c) (y := y) (g := g) (a := a) (q := q) (v := v) (t := t) (tc := tc) hO hj (show i < 40 by omega) w u1 d1
  have hT := fun X => hH.cel (X := X) hj hi hk a14 u1 so e1 e2 e3 e4
  rcases so_dich ⟨Int32.le_trans (by decide) so.1, so.2⟩ with e | e | e | e
  · rw [e] at so; exact absurd so.1 (by decide)
  · rw [e1, e] at hx
    refine JI.ff hx (cell_ok_0 hj (by omega) w a14 d2 e) rfl rfl ?_
    exact INV.of ⟨⟨⟨m1, m2, m6⟩, ⟨c1, c2, c6⟩, ⟨t1, t2, tt⟩, ⟨n1, n2, n160⟩, ag⟩, ⟨xl, xs, xa⟩, hP, hL, hW, hC, hM, hT _⟩
  · rw [e1, e] at hx
    refine JI.ff hx (cell_ok_1 hj (by omega) w a14 d2 e) rfl rfl ?_
    exact INV.of ⟨⟨⟨m1, m2, m6⟩, ⟨c1, c2, c6⟩, ⟨t1, t2, tt⟩, ⟨n1, n2, n160⟩, ag⟩, ⟨xl, xs, xa⟩, hP, hL, hW, hC, hM, hT _⟩
  · rw [e1, e] at hx
    refine JI.ff hx (cell_ok_2 hj (by omega) w a14 d2 e) rfl rfl ?_
    exact INV.of ⟨⟨⟨m1, m2, m6⟩, ⟨c1, c2, c6⟩, ⟨t1, t2, tt⟩, ⟨n1, n2, n160⟩, ag⟩, ⟨xl, xs, xa⟩, hP, hL, hW, hC, hM, hT _⟩
theorem TH.cpy (hH : TH u v A) {i o p r n si so : Nat} (hi : i < 4) (ho : o < 4) (hsi : si ≤ 40) (hso : so ≤ 40) (a14 : ¬ A 14 o = 0) (u1 : ¬ u o 1 = -1) (hso2 : 0 ≤ A 15 o ∧ A 15 o ≤ 2) (e1 : u o 1 = A 15 o) (e2 : u o 2 = nI so) (e3 : A 16 o = nI so) (e4 : ∀ x, x < so → v o x = A 17 (40 * o + x)) (f4 : ∀ x, x < si → v i x = A 17 (40 * i + x)) (hp : p + n ≤ si) (hr : r + n ≤ so) : TH u (up2 v o (va_cpy (v i) (v o) p r n)) (up2 A 17 (va_cpy (A 17) (A 17) (40 * i + p) (40 * o + r) n)) := by
  refine hH.put (j := o) (.inr ⟨a14, u1, so, hso, hso2, e1, e2, e3, fun x hx => ?_⟩) (fun y hy e => ⟨rfl, up2_n e, rfl, rfl, rfl, fun x hx => ?_⟩)
  · rw [up2_s, up2v]
    show (if r ≤ x ∧ x < r + n then v i (p + (x - r)) else v o x) = (if 40 * o + r ≤ 40 * o + x ∧ 40 * o + x < 40 * o + r + n then A 17 (40 * i + p + (40 * o + x - (40 * o + r))) else A 17 (40 * o + x))
    by_cases h : r ≤ x ∧ x < r + n
    · rw [if_pos h, if_pos (by omega), f4 _ (by omega)]
      congr 1; omega
    · rw [if_neg h, if_neg (by omega)]; exact e4 x hx
  · rw [up2v]
    exact if_neg (by omega)
theorem j_copy (hI : TIE g a q u v c y t tc TX G A m n Vs) (s x1 o y1 w : Int32) : JI mX10_copy 8 mX11_copy 9 [.int s, .int x1, .int o, .int y1, .int w] (hX g a q u v z b c y t tc TX) (hC G Z W A B) := by
  have hO := hI.O
  obtain ⟨⟨⟨m1, m2, m6⟩, ⟨c1, c2, c6⟩, ⟨t1, t2, tt⟩, ⟨n1, n2, n160⟩, ag⟩, ⟨xl, xs, xa⟩, hP, hL, hW, hC, hM, hH⟩ := id hI
  obtain ⟨cd, en, L, hR, hT⟩ := xs t tt
  obtain ⟨hS1, hTV⟩ := xa t tt
  have hWk := hW.wok m6
  have hLq := hL.eq
  rcases sh_dich s with ⟨s1, s2⟩ | ⟨s1, s2, j, hj, rfl⟩
  · rcases sh_dich o with ⟨o1, o2⟩ | ⟨o1, o2, i, hi, rfl⟩
    · exact JI.ff (k_copy_bad2 hO s1 o1 x1 y1 w) (copy_bad s x1 o y1 w (fun z => s2 z.1)) rfl rfl (INV.of hI)
    · exact JI.ff (k_copy_bad1 hO s1 hi x1 y1 w) (copy_bad s x1 (nI i) y1 w (fun z => s2 z.1)) rfl rfl (INV.of hI)
  rcases sh_dich o with ⟨o1, o2⟩ | ⟨o1, o2, i, hi, rfl⟩
  · exact JI.ff (k_copy_bad0 hO hj o1 x1 y1 w) (copy_bad (nI j) x1 o y1 w (fun z => o2 z.2)) rfl rfl (INV.of hI)
  rcases hH.of hj with ⟨a14, u1⟩ | ⟨a14, u1, k, hk, so, e1, e2, e3, e4⟩
  · exact JI.ff (k_copy_none1 hO hj hi x1 y1 w u1) (copy_none hj hi x1 y1 w (.inl a14)) rfl rfl (INV.of hI)
  rcases hH.of hi with ⟨b14, v1⟩ | ⟨b14, v1, l, hl, so2, f1, f2, f3, f4⟩
  · exact JI.ff (k_copy_none2 hO hj hi x1 y1 w u1 v1) (copy_none hj hi x1 y1 w (.inr b14)) rfl rfl (INV.of hI)
  have hne : ¬ (A 14 j = 0 ∨ A 14 i = 0) := fun z => z.elim a14 b14
  by_cases hs : A 15 j = A 15 i
  · have hu : u j 1 = u i 1 := by rw [e1, f1, hs]
    rcases cp_dich (x := x1) (n := w) hk with ⟨p, r, rfl, rfl, hpr, hc1⟩ | ⟨hc1, hc2⟩
    · rcases cp_dich (x := y1) (n := nI r) hl with ⟨p2, r2, rfl, hrr, hpr2, hd1⟩ | ⟨hd1, hd2⟩
      · rw [← e2] at hc1
        rw [← f2] at hd1
        have hr31 : p2 + r ≤ l := by
          have h1 : nI r ≤ nI 40 := by rw [hrr]; exact nI_le (by omega) (by omega)
          by_cases hr40 : r < 2 ^ 31
          · have := (nI_eq hr40 (show r2 < 2 ^ 31 by omega)).mp hrr
            omega
          · omega
        have hx := k_copy_ok (z := z) (b := b) (c := c) (y := y) (g := g) (a := a) (q := q) (v := v) (t := t) (tc := tc) hO hj hi (show p + r ≤ 40 by omega) (show p2 + r ≤ 40 by omega) u1 v1 hu hc1 hd1
        have hT := hH.cpy hj hi hk hl b14 v1 so2 f1 f2 f3 f4 e4 hpr hr31
        by_cases hji : j = i
        · subst hji
          have hkl : k = l := (nI_eq (by omega) (by omega)).mp (e2.symm.trans f2)
          subst hkl
          by_cases hq : p2 ≤ p
          · refine JI.ff hx (copy_up hj a14 e3 hk hpr hr31 hq) rfl rfl ?_
            exact INV.of ⟨⟨⟨m1, m2, m6⟩, ⟨c1, c2, c6⟩, ⟨t1, t2, tt⟩, ⟨n1, n2, n160⟩, ag⟩, ⟨xl, xs, xa⟩, hP, hL, hW, hC, hM, hT⟩
          · refine JI.ff hx (copy_dn hj a14 e3 hk hpr hr31 (by omega)) rfl rfl ?_
            exact INV.of ⟨⟨⟨m1, m2, m6⟩, ⟨c1, c2, c6⟩, ⟨t1, t2, tt⟩, ⟨n1, n2, n160⟩, ag⟩, ⟨xl, xs, xa⟩, hP, hL, hW, hC, hM, hT⟩
        · refine JI.ff hx (copy_ne hj hi hji a14 b14 hs e3 f3 hk hl hpr hr31) rfl rfl ?_
          exact INV.of ⟨⟨⟨m1, m2, m6⟩, ⟨c1, c2, c6⟩, ⟨t1, t2, tt⟩, ⟨n1, n2, n160⟩, ag⟩, ⟨xl, xs, xa⟩, hP, hL, hW, hC, hM, hT⟩
      · rw [← e2] at hc1
        rw [← f2] at hd1
        refine JI.ff (k_copy_out2 hO hj hi u1 v1 hu hc1 hd1) (copy_out hj hi (nI p) y1 (nI r) hne hs ?_) rfl rfl (INV.of hI)
        rcases hd2 with h | h | h
        · exact .inl h
        · exact .inr (.inr (.inl h))
        · exact .inr (.inr (.inr (.inr (by rw [f3]; exact h))))
    · rw [← e2] at hc1
      refine JI.ff (k_copy_out1 hO hj hi u1 v1 hu hc1) (copy_out hj hi x1 y1 w hne hs ?_) rfl rfl (INV.of hI)
      rcases hc2 with h | h | h
      · exact .inl h
      · exact .inr (.inl h)
      · exact .inr (.inr (.inr (.inl (by rw [e3]; exact h))))
  · have hu : ¬ u j 1 = u i 1 := by rw [e1, f1]; exact hs
    exact JI.ff (k_copy_unlike hO hj hi x1 y1 w u1 v1 hu) (copy_unlike hj hi x1 y1 w hne hs) rfl rfl (INV.of hI)
theorem fil_at {says : Nat → Int32} {j : Nat} {F : Nat → Int32} : ∀ n y, (it (filF says j) n (0, F)).2 y = if 40 * j ≤ y ∧ y < 40 * j + n then says (y - 40 * j) else F y
  | 0, y => (if_neg (by omega)).symm
  | n + 1, y => by
    rw [it_succ]
    show upd (it (filF says j) n (0, F)).2 (40 * j + n) (says n) y = _
    by_cases e : y = 40 * j + n
    · rw [e, pk_us, if_pos (by omega), Nat.add_sub_cancel_left]
    · rw [pk_un e, fil_at n y]
      by_cases h : 40 * j ≤ y ∧ y < 40 * j + n
      · rw [if_pos h, if_pos (by omega)]
      · rw [if_neg h, if_neg (by omega)]
theorem fil_c {says P : Nat → Int32} {j : Nat} {F : Nat → Int32} : ∀ n, (∀ k, k < n → says k = P k) → (it (filF says j) n (0, F)).1 = flC P n
  | 0, _ => rfl
  | n + 1, h => by
    have ih := fil_c (F := F) (j := j) n (fun k hk => h k (by omega))
    rw [it_succ]
    show (it (filF says j) n (0, F)).1 + (if says n = -1 then 0 else 1) = (if P n = -1 then flC P n else flC P n + 1)
    rw [ih, h n (by omega)]
    by_cases e : P n = -1
    · rw [if_pos e, if_pos e, Int32.add_zero]
    · rw [if_neg e, if_neg e]
theorem flR_at {P : Nat → Int32} {F : Nat → Int32} : ∀ n k, k < n → flR P F n k = itV 0 (P k)
  | 0, k, h => absurd h (Nat.not_lt_zero k)
  | n + 1, k, h => by
    show upd (flR P F n) n (itV 0 (P n)) k = _
    by_cases e : k = n
    · rw [e, pk_us]
    · rw [pk_un e]; exact flR_at n k (by omega)
theorem j_film (hI : TIE g a q u v c y t tc TX G A m n Vs) (s x : Int32) : JI mX10_film 8 mX11_film 5 [.int s, .int x] (hX g a q u v z b c y t tc TX) (hC G Z W A B) := by
  have hO := hI.O
  obtain ⟨⟨⟨m1, m2, m6⟩, ⟨c1, c2, c6⟩, ⟨t1, t2, tt⟩, ⟨n1, n2, n160⟩, ag⟩, ⟨xl, xs, xa⟩, hP, hL, hW, hC, hM, hH⟩ := id hI
  obtain ⟨cd, en, L, hR, hT⟩ := xs t tt
  obtain ⟨hS1, hTV⟩ := xa t tt
  have hWk := hW.wok m6
  have hLq := hL.eq
  rcases sh_dich s with ⟨s1, s2⟩ | ⟨s1, s2, j, hj, rfl⟩
  · rcases wit_dich m1 m2 (by omega) x with ⟨d1, d2⟩ | ⟨d1, d2, i, hi, rfl⟩
    · exact JI.ff (k_film_sw hO s1 d1) (film_no s x (fun z => s2 z.1)) rfl rfl (INV.of hI)
    · exact JI.ff (k_film_s hO m1 m6 s1 hi) (film_no s (nI i) (fun z => s2 z.1)) rfl rfl (INV.of hI)
  rcases wit_dich m1 m2 (by omega) x with ⟨d1, d2⟩ | ⟨d1, d2, i, hi, rfl⟩
  · exact JI.ff (k_film_w hO hj d1) (film_no (nI j) x (fun z => d2 z.2)) rfl rfl (INV.of hI)
  obtain ⟨⟨kk, hkk, ek⟩, _, _, w1, w2, w3, w4⟩ := hW i hi
  obtain ⟨dl, hdl, hlf, hlA⟩ := hL.dl
  have hsay : ∀ k, k < 6 → nowV A t (G 7) (nI i) (nI k) = cSay (Vs t) q (a 1) (g 0) i k := fun k hk => by
    rw [now_c hTV (by omega) hk w1 w2 w3 hLq, ← ag]; rfl
  have hrng : ∀ k, k < 6 → itV 0 (cSay (Vs t) q (a 1) (g 0) i k) = cSay (Vs t) q (a 1) (g 0) i k := fun k hk => by
    have : ∃ y, y < 7 ∧ cSay (Vs t) q (a 1) (g 0) i k = tlv y := by
      unfold cSay
      rw [hlf k hk]
      exact sayK_rng _ _ _ _ _ (hdl k hk)
    obtain ⟨y, hy, e⟩ := this
    rw [e]; exact it_tlv y hy
  refine JI.mk (k_film hO m1 m6 hW.K hW.S hR hT hj hi) (film_ok t2 hS1 m2 m6 hWk hj hi) rfl (fun _ _ ⟨_, _, e1, e⟩ => ⟨by rw [e, hX_len]; omega, _, e1⟩) (fun _ _ ⟨_, _, _, e⟩ => by rw [e]; rfl) ?_
  rintro _ _ _ _ ⟨z', sk', rfl, rfl⟩ ⟨z2, w2', rfl, rfl⟩
  refine ⟨⟨_, rfl, by rw [fil_c 6 hsay]⟩, ?_⟩
  refine INV.of ⟨⟨⟨m1, m2, m6⟩, ⟨c1, c2, c6⟩, ⟨t1, t2, tt⟩, ⟨n1, n2, n160⟩, ag⟩, ⟨xl, xs, xa⟩, hP, hL, hW, hC, hM, ?_⟩
  refine hH.put (j := j) (.inr ⟨?_, ?_, 6, by decide, ?_, ?_, ?_, ?_, fun x hx => ?_⟩) (fun y hy e => ⟨up2_n e, up2_n e, pk_un e, pk_un e, pk_un e, fun x hx => ?_⟩)
  · show ¬ upd (A 14) j 1 j = 0
    rw [pk_us]; decide
  · rw [up2_s]
    show ¬ (0 : Int32) = -1
    decide
  · show 0 ≤ upd (A 15) j 0 j ∧ upd (A 15) j 0 j ≤ 2
    rw [pk_us]; decide
  · rw [up2_s]; show 0 = upd (A 15) j 0 j; rw [pk_us]
  · rw [up2_s]; rfl
  · show upd (A 16) j (nI 6) j = nI 6; rw [pk_us]
  · rw [up2_s, up2v, fil_at, if_pos (by omega), flR_at 6 x hx, Nat.add_sub_cancel_left, hrng x hx]
    exact (hsay x hx).symm
  · rw [up2v, fil_at, if_neg (by omega), zer_at, if_neg (by omega)]
end UN
