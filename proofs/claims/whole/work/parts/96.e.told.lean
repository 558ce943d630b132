/-! ===== what was told (wip/tools/m_tie3.py) ===== -/
theorem tlV_c {P Q : Nat → Int32} {n : Nat} (h : ∀ k, k < n → P k = Q k) : tlV P n = tlV Q n := it_congr n (fun k s hk => by unfold tlF; rw [h k hk])
theorem tcV_c {P Q : Nat → Int32} {n : Nat} (h : ∀ k, k < n → P k = Q k) : tcV P n = tcV Q n := it_congr n (fun k s hk => by rw [h k hk])
theorem up2v {A : Nat → Nat → Int32} {k : Nat} {f : Nat → Int32} : up2 A k f k = f := if_pos rfl
section UN
variable {g z : Nat → Int32} {a q u v b c y : Nat → Nat → Int32} {t tc : Nat} {TX : PH} {G Z : Nat → Int32} {W : Int64} {A B : Nat → Nat → Int32} {m n : Nat} {Vs : Nat → (Nat → Int32) → Int32 → Int32}
theorem TH.of (hH : TH u v A) {j : Nat} (hj : j < 4) : (A 14 j = 0 ∧ u j 1 = -1) ∨ (¬ A 14 j = 0 ∧ ¬ u j 1 = -1 ∧ ∃ k, k ≤ 40 ∧ (0 ≤ A 15 j ∧ A 15 j ≤ 2) ∧ u j 1 = A 15 j ∧ u j 2 = nI k ∧ A 16 j = nI k ∧ ∀ i, i < k → v j i = A 17 (40 * j + i)) := hH j hj
theorem sh_dich (s : Int32) : (¬ (0 ≤ s ∧ s < 4) ∧ ¬ (0 ≤ s ∧ s ≤ 3)) ∨ ((0 ≤ s ∧ s < 4) ∧ (0 ≤ s ∧ s ≤ 3) ∧ ∃ i, i < 4 ∧ s = nI i) := wit_dich (g1 := 4) (G1 := 4) (m := 4) rfl rfl (by decide) s
theorem j_tells (hI : TIE g a q u v c y t tc TX G A m n Vs) (s x w : Int32) : JI mX10_tells 6 mX11_tells 11 [.int s, .int x, .int w] (hX g a q u v z b c y t tc TX) (hC G Z W A B) := by
  have hO := hI.O
  obtain ⟨⟨⟨m1, m2, m6⟩, ⟨c1, c2, c6⟩, ⟨t1, t2, tt⟩, ⟨n1, n2, n160⟩, ag⟩, ⟨xl, xs, xa⟩, hP, hL, hW, hC, hM, hH⟩ := id hI
  obtain ⟨cd, en, L, hR, hT⟩ := xs t tt
  obtain ⟨hS1, hTV⟩ := xa t tt
  have hWk := hW.wok m6
  have hLq := hL.eq
  rcases sh_dich s with ⟨s1, s2⟩ | ⟨s1, s2, j, hj, rfl⟩
  · refine JI.ee (d1 := 6) hI ?_ (P0.b0 (tells_no s x w (fun z => s2 z.1))) rfl rfl
    rcases wit_dich m1 m2 (by omega) x with ⟨d1, d2⟩ | ⟨d1, d2, i, hi, rfl⟩
    · exact P0.ex hC (k_tells_sw hO s1 d1 w)
    · exact P0.ex hC (k_tells_s hO m1 m6 s1 hi w)
  rcases wit_dich m1 m2 (by omega) x with ⟨d1, d2⟩ | ⟨d1, d2, i, hi, rfl⟩
  · exact JI.ee hI (P0.ex hC (k_tells_w hO hj d1 w)) (P0.b0 (tells_no (nI j) x w (fun z => d2 z.2.1))) rfl rfl
  by_cases h : 0 ≤ w ∧ w ≤ 7
  · rcases hH.of hj with ⟨a14, u1⟩ | ⟨a14, u1, k, hk, so, e1, e2, e3, e4⟩
    · exact JI.ee hI (P0.ex hC (k_tells_none hO m1 m6 hj hi h u1)) (P0.b0 (tells_none hj m2 m6 hi w h a14)) rfl rfl
    by_cases k6 : k = 6
    · subst k6
      have a6 : A 16 j = 6 := e3
      have u6 : u j 2 = 6 := e2
      have hrow : ∀ s, s < 6 → A 17 (40 * j + s) = v j s := fun s hs => (e4 s hs).symm
      obtain ⟨_, _, _, w1, w2, w3, w4⟩ := hW i hi
      have hi6 : i < 6 := by omega
      have hlt := lt_same (f := A 17) (sh := j) (row := v j) (hW.by (age := g 0) m6 hTV (B 7) hi) (fun s hs => by rw [ix_2 hj (by omega), hrow s hs])
      rcases upto7 h with e | e | e | e | e | e | e | e
      · subst e; refine JI.ee hI (k_tells0 hO m1 m6 hW.K hW.S hR hT t1 tt c6 hC hj hi u1 u6) (P0.wb (tells_0 t2 hS1 m2 m6 hWk hj hi a14 a6)) rfl ?_
        rw [← ag]
        exact (fir_c hTV hi6 hj w1 w2 w3 hLq hrow).symm
      · subst e; refine JI.ee hI (k_tells1 hO m1 m6 hW.K hW.S hR hT t1 tt c6 hC hj hi u1 u6) (tells_1 t2 hS1 m2 m6 hWk hj hi a14 a6) rfl ?_
        rw [← ag]
        exact hlt.1.symm
      · subst e; refine JI.ee hI (k_tells2 hO m1 m6 hW.K hW.S hR hT t1 tt c6 hC hj hi u1 u6) (tells_2 t2 hS1 m2 m6 hWk hj hi a14 a6) rfl ?_
        rw [← ag]
        exact hlt.2.symm
      · subst e; refine JI.ee hI (k_tells3 hO m1 m6 hW.K hW.S hR hT t1 tt c6 hC hj hi u1 u6) (P0.wb (tells_3 t2 hS1 m2 m6 hWk hj hi a14 a6)) rfl ?_
        rw [← ag, tel_or]
        refine tlV_c (fun y _ => (fir_c (A := up2 A 5 (upd (A 5) i (nI y))) hTV hi6 hj ?_ w2 w3 hLq hrow).symm)
        rw [up2v, pk_us]
      · subst e; refine JI.ee hI (k_tells4 hO m1 m6 hW.K hW.S hR hT t1 tt c6 hC hj hi u1 u6) (P0.wb (tells_4 t2 hS1 m2 m6 hWk hj hi a14 a6)) rfl ?_
        rw [← ag, tel_or]
        refine tlV_c (fun y _ => (fir_c (A := up2 A 6 (upd (A 6) (3 * i) (nI y))) hTV hi6 hj w1 ?_ ?_ hLq hrow).symm)
        · rw [up2v, pk_us]
        · rw [up2v, pk_un (by omega)]; exact w3
      · subst e; refine JI.ee hI (k_tells5 hO m1 m6 hW.K hW.S hR hT t1 tt c6 hC hj hi u1 u6) (P0.wb (tells_5 t2 hS1 m2 m6 hWk hj hi a14 a6)) rfl ?_
        rw [← ag, tel_cnt]
        refine tcV_c (fun y _ => (fir_c (A := up2 A 6 (upd (A 6) (3 * i + 1) (nI y))) hTV hi6 hj w1 ?_ ?_ hLq hrow).symm)
        · rw [up2v, pk_un (by omega)]; exact w2
        · rw [up2v, pk_us]
      · subst e; refine JI.ee hI (k_tells6 hO m1 m6 hW.K hW.S hR hT t1 tt c6 hC hj hi u1 u6) (P0.wb (tells_6 t2 hS1 m2 m6 hWk hj hi a14 a6)) rfl ?_
        rw [← ag, tel_least]
        refine fsI_c (fun y _ => ?_)
        have e := fir_c (age := g 0) (nu := q i 2) (saw := nI y) (A := up2 A 6 (upd (A 6) (3 * i + 1) (nI y))) hTV hi6 hj w1 (by rw [up2v, pk_un (by omega)]; exact w2) (by rw [up2v, pk_us]) hLq hrow
        rw [e]
      · subst e; refine JI.ee hI (k_tells7 hO m1 m6 hW.K hW.S hR hT t1 tt c6 hC hj hi u1 u6 c1 xs) (P0.wb (tells_7 t2 hS1 m2 m6 hWk hj hi a14 a6 c2 (by omega) c6 (fun y hy => (xa y hy).1))) rfl ?_
        rw [← ag, tel_or, show tc - 1 + 1 = tc by omega]
        exact tlV_c (fun y hy => (fir_c (xa y hy).2 hi6 hj w1 w2 w3 hLq hrow).symm)
    · have a6 : ¬ A 16 j = 6 := fun z => k6 ((nI_eq (a := k) (b := 6) (by omega) (by decide)).mp (e3.symm.trans z))
      have u6 : ¬ u j 2 = 6 := fun z => k6 ((nI_eq (a := k) (b := 6) (by omega) (by decide)).mp (e2.symm.trans z))
      exact JI.ee hI (P0.ex hC (k_tells_size hO m1 m6 hj hi h u1 u6)) (P0.b0 (tells_size hj m2 m6 hi w h a14 a6)) rfl rfl
  · exact JI.ee hI (P0.ex hC (k_tells_no hO m1 m6 hj hi h)) (P0.b0 (tells_no (nI j) (nI i) w (fun z => h z.2.2))) rfl rfl
theorem drw_TV (hTV : TV A t (Vs t)) (f : Nat → Int32) : TV (up2 A 4 f) t (Vs t) := hTV
theorem drw_TW (hW : TW q A m) (f : Nat → Int32) : TW q (up2 A 4 f) m := hW
theorem drw_lt (seed : Int32) : ∀ s, s < 6 → drN seed s < 4 := fun s _ => (dr_nI seed s).choose_spec.1
theorem drw_A (seed : Int32) (f : Nat → Int32) : ∀ s, s < 6 → up2 A 4 (cpN (drD seed) f 6) 4 s = nI (drN seed s) := fun s hs => by
  rw [up2v, ← drN_eq]; exact if_pos hs
theorem j_drawn (hI : TIE g a q u v c y t tc TX G A m n Vs) (x : Int32) : JI mX10_drawn 2 mX11_drawn 3 [.int x] (hX g a q u v z b c y t tc TX) (hC G Z W A B) := by
  have hO := hI.O
  obtain ⟨⟨⟨m1, m2, m6⟩, ⟨c1, c2, c6⟩, ⟨t1, t2, tt⟩, ⟨n1, n2, n160⟩, ag⟩, ⟨xl, xs, xa⟩, hP, hL, hW, hC, hM, hH⟩ := id hI
  obtain ⟨cd, en, L, hR, hT⟩ := xs t tt
  obtain ⟨hS1, hTV⟩ := xa t tt
  have hWk := hW.wok m6
  have hLq := hL.eq
  refine JI.ee hI (k_drawn hO m1 m6 hW.K hW.S hR hT t1 tt c6 hC x) (e_X11_drawn t2 hS1 m2 m6 hWk x) rfl ?_
  rw [← ag]
  exact (livV_W ((drw_TW hW _).fits m6 (drw_TV hTV _) (drw_lt x) (drw_A x (A 4)) z0 z0)).symm
theorem chN_c (hW : TW q A m) (m6 : m ≤ 6) (hTV : TV A t (Vs t)) (age seed k : Int32) : ∀ N, chN A t age m seed k N = chC (RLw (Vs t) q age) m (sbV q m) seed k N
  | 0 => rfl
  | N + 1 => by
    have e := sureV_D ((drw_TW hW _).fits (age := age) m6 (drw_TV hTV _) (drw_lt (seed + nI N)) (drw_A (seed + nI N) (A 4)) z0 z0)
    show chN A t age m seed k N + _ = chC (RLw (Vs t) q age) m (sbV q m) seed k N + _
    rw [chN_c hW m6 hTV age seed k N, ← e]
    rfl
theorem lN_small : ∀ c, c < 32 → (nI c).toInt64 = lN c := by decide +kernel
theorem lN_div {a b : Nat} (ha : a < 32) (hb0 : 0 < b) (hb : b < 32) : (nI a / nI b).toInt64 = lN (a / b) := by
  rw [show nI a / nI b = nI (a / b) from pk_div (by omega) (by omega) (by omega)]
  have := Nat.div_le_self a b
  exact lN_small _ (by omega)
theorem j_chance (hI : TIE g a q u v c y t tc TX G A m n Vs) (x n1_ k p : Int32) : JL mX10_chance 8 mX11_chance 13 [.int x, .int n1_, .int k, .int p] (hX g a q u v z b c y t tc TX) (hC G Z W A B) := by
  have hO := hI.O
  obtain ⟨⟨⟨m1, m2, m6⟩, ⟨c1, c2, c6⟩, ⟨t1, t2, tt⟩, ⟨n1, n2, n160⟩, ag⟩, ⟨xl, xs, xa⟩, hP, hL, hW, hC, hM, hH⟩ := id hI
  obtain ⟨cd, en, L, hR, hT⟩ := xs t tt
  obtain ⟨hS1, hTV⟩ := xa t tt
  have hWk := hW.wok m6
  have hLq := hL.eq
  by_cases h : (1 ≤ n1_ ∧ n1_ ≤ 20) ∧ (0 ≤ k ∧ k ≤ 6) ∧ 0 ≤ p ∧ p ≤ 1
  · obtain ⟨N, hN, rfl⟩ := small_nI (N := 20) (by decide) ⟨Int32.le_trans (by decide) h.1.1, h.1.2⟩
    have h1 : 1 ≤ N := (nI_leI (a := 1) (by decide) (by omega)).mp h.1.1
    refine JL.mk (k_chance hO m1 m6 hW.K hW.S hR hT t1 tt c6 hC h1 hN h.2.1 h.2.2) (chance_ok t2 hS1 m2 m6 hWk h1 hN x k p h.2.1 h.2.2) rfl (fun _ _ ⟨_, _, e1, e⟩ => ⟨by rw [e, hX_len]; omega, _, e1⟩) (fun _ _ ⟨_, _, _, _, e⟩ => by rw [e]; rfl) ?_
    rintro _ _ _ _ ⟨e, hC', rfl, rfl⟩ ⟨z', w', b', rfl, rfl⟩
    refine ⟨⟨_, rfl, ?_⟩, INV.of (hI.ck hC')⟩
    rw [← ag, chN_c hW m6 hTV]
    have hle := chC_le (RLw (Vs t) q (g 0)) m (sbV q m) x k N
    have hg0 : 0 < Nat.gcd (chC (RLw (Vs t) q (g 0)) m (sbV q m) x k N) N := Nat.gcd_pos_of_pos_right _ h1
    have hgl := Nat.gcd_le_right (chC (RLw (Vs t) q (g 0)) m (sbV q m) x k N) h1
    rw [← lN_div (by omega) hg0 (by omega), ← lN_div (by omega) hg0 (by omega)]
    rfl
  · refine JL.mk (k_chance_no hO h) (chance_no x n1_ k p h) rfl (fun _ _ ⟨e1, e⟩ => ⟨by rw [e, hX_len]; omega, _, e1⟩) (fun _ _ ⟨_, e⟩ => by rw [e]; rfl) ?_
    rintro _ _ _ _ ⟨rfl, rfl⟩ ⟨rfl, rfl⟩
    exact ⟨⟨_, rfl, rfl⟩, INV.of hI⟩
end UN
