/-! ===== witnesses off a sheet, texts (wip/tools/m_tie6.py) ===== -/
theorem wc_iff {at1 : Int32} {sz k : Nat} (hsz : sz ≤ 40) (hk : k ≤ 6) (h0 : 0 ≤ at1 ∨ k = 0) : (0 ≤ at1 + nI (3 * k) ∧ 0 ≤ (3 : Int32) ∧ at1 + nI (3 * k) ≤ nI sz ∧ 3 ≤ nI sz - (at1 + nI (3 * k))) ↔ (0 ≤ at1 ∧ at1 ≤ nI sz - 3 * nI k - 3) := by
  have ts : (nI sz).toInt = (sz : Int) := nI_toInt (by omega)
  have tk : (nI (3 * k)).toInt = ((3 * k : Nat) : Int) := nI_toInt (by omega)
  have t3 : (3 : Int32).toInt = 3 := by decide
  have t0 : (0 : Int32).toInt = 0 := by decide
  have lo := Int32.le_toInt at1
  have hi := Int32.toInt_lt at1
  have e1 : (nI sz - 3 * nI k).toInt = (sz : Int) - 3 * k := by
    rw [show (3 : Int32) * nI k = nI (3 * k) from pk_mul 3 k, Int32.toInt_sub, ts, tk]
    rw [Int.bmod_eq_of_le (by omega) (by omega)]; omega
  have e2 : (nI sz - 3 * nI k - 3).toInt = (sz : Int) - 3 * k - 3 := by
    rw [Int32.toInt_sub, e1, t3]; exact Int.bmod_eq_of_le (by omega) (by omega)
  rw [Int32.le_iff_toInt_le, Int32.le_iff_toInt_le, Int32.le_iff_toInt_le, Int32.le_iff_toInt_le, Int32.le_iff_toInt_le, Int32.le_iff_toInt_le, e2, t0, t3, ts]
  have h0' : 0 ≤ at1.toInt ∨ k = 0 := by
    rcases h0 with h | h
    · left; have := Int32.le_iff_toInt_le.mp h; omega
    · exact .inr h
  have ea : (at1 + nI (3 * k)).toInt = (at1.toInt + (3 * k : Nat)).bmod (2 ^ 32) := by rw [Int32.toInt_add, tk]
  by_cases hb : at1.toInt + 3 * k < 2 ^ 31
  · have eb : (at1 + nI (3 * k)).toInt = at1.toInt + 3 * k := by
      rw [ea, Int.bmod_eq_of_le (by omega) (by omega)]; omega
    by_cases hc : 0 ≤ at1.toInt + 3 * k ∧ at1.toInt + 3 * k ≤ sz
    · have es : (nI sz - (at1 + nI (3 * k))).toInt = (sz : Int) - (at1.toInt + 3 * k) := by
        rw [Int32.toInt_sub, ts, eb]; exact Int.bmod_eq_of_le (by omega) (by omega)
      rw [es, eb]; omega
    · rw [eb]
      constructor
      · intro z; exact absurd ⟨z.1, z.2.2.1⟩ hc
      · intro z; omega
  · have eb : (at1 + nI (3 * k)).toInt = at1.toInt + 3 * k - 2 ^ 32 := by
      rw [ea, Int.bmod_def]
      omega
    rw [eb]
    constructor
    · intro z; omega
    · intro z; omega
section RC
variable {q A : Nat → Nat → Int32} {G : Nat → Int32} {m : Nat}
/-- the witnesses come one by one to both -/
theorem run_c {row F : Nat → Int32} {p j sz : Nat} (hrow : ∀ i, i < sz → row i = F (40 * j + i)) (hsz : sz ≤ 40) (hW : TW q A m) (m6 : m ≤ 6) (m2 : G 11 = nI m) : ∀ K, p + 3 * K ≤ sz → ∀ p' c1 q2 c2, cRun row (nI p) (m, q) K p' c1 → wRun F (40 * j + p) (m, G, A) K q2 c2 → c1 = c2 ∧ p'.1 = q2.1 ∧ p'.1 ≤ 6 ∧ TW p'.2 q2.2.2 p'.1 ∧ q2.2.1 11 = nI p'.1 ∧ (∀ k, k ≠ 11 → q2.2.1 k = G k) ∧ (∀ k, k ≠ 5 → k ≠ 6 → q2.2.2 k = A k) ∧ m ≤ p'.1
  | 0, _, p', c1, q2, c2, h1, h2 => by
    obtain ⟨rfl, rfl⟩ := h1
    obtain ⟨rfl, rfl⟩ := h2
    exact ⟨rfl, rfl, m6, hW, m2, fun _ _ => rfl, fun _ _ _ => rfl, Nat.le_refl _⟩
  | K + 1, hK, p', c1, q2, c2, h1, h2 => by
    obtain ⟨p1, d1, w, r1, s1, e1⟩ := h1
    obtain ⟨q0, d2, v, r2, s2, e2⟩ := h2
    obtain ⟨i1, i2, i3, i4, i5, i6, i7, i8⟩ := run_c hrow hsz hW m6 m2 K (by omega) p1 d1 q0 d2 r1 r2
    have a0 : rowAt 40 row (nI p + nI (3 * K)) = F (40 * j + p + 3 * K) := by
      rw [nI_add, rowAt_in (by decide) row (by omega), hrow _ (by omega), Nat.add_assoc]
    have a1 : rowAt 40 row (nI p + nI (3 * K) + 1) = F (40 * j + p + 3 * K + 1) := by
      rw [nI_add, nI_1, rowAt_in (by decide) row (by omega), hrow _ (by omega)]; congr 1; omega
    have a2 : rowAt 40 row (nI p + nI (3 * K) + 2) = F (40 * j + p + 3 * K + 2) := by
      rw [nI_add, show nI (p + 3 * K) + 2 = nI (p + 3 * K + 2) from nI_add (p + 3 * K) 2, rowAt_in (by decide) row (by omega), hrow _ (by omega)]; congr 1; omega
    rw [a0, a1, a2] at s1
    generalize F (40 * j + p + 3 * K) = kd at s1 s2
    generalize F (40 * j + p + 3 * K + 1) = nu at s1 s2
    generalize F (40 * j + p + 3 * K + 2) = sw at s1 s2
    rcases s1 with ⟨n1, rfl, rfl⟩ | ⟨y1, f1, rfl, rfl⟩ | ⟨y1, l1, rfl, rfl⟩
    · rcases s2 with ⟨n2, rfl, rfl⟩ | ⟨y2, f2, rfl, rfl⟩ | ⟨y2, l2, rfl, rfl⟩
      · exact ⟨by rw [e1, e2, i1], i2, i3, i4, i5, i6, i7, i8⟩
      · exact absurd y2 n1
      · exact absurd y2 n1
    · rcases s2 with ⟨n2, rfl, rfl⟩ | ⟨y2, f2, rfl, rfl⟩ | ⟨y2, l2, rfl, rfl⟩
      · exact absurd y1 n2
      · exact ⟨by rw [e1, e2, i1], i2, i3, i4, i5, i6, i7, i8⟩
      · omega
    · rcases s2 with ⟨n2, rfl, rfl⟩ | ⟨y2, f2, rfl, rfl⟩ | ⟨y2, l2, rfl, rfl⟩
      · exact absurd y1 n2
      · omega
      · refine ⟨by rw [e1, e2, i1, i2], by show p1.1 + 1 = q0.1 + 1; rw [i2], by show p1.1 + 1 ≤ 6; omega, ?_, ?_, ?_, ?_, by show m ≤ p1.1 + 1; omega⟩
        · show TW (up2 p1.2 p1.1 (qw kd nu sw 0)) (up2 (up2 q0.2.2 5 (upd (q0.2.2 5) q0.1 kd)) 6 (upd (upd (upd (q0.2.2 6) (3 * q0.1) nu) (3 * q0.1 + 1) sw) (3 * q0.1 + 2) 0)) (p1.1 + 1)
          rw [← i2]
          exact i4.add (st_nI y1.1) (up63 y1.2.2)
        · show upd q0.2.1 11 (nI q0.1 + 1) 11 = nI (p1.1 + 1)
          rw [pk_us, nI_1, i2]
        · intro k hk
          show upd q0.2.1 11 (nI q0.1 + 1) k = G k
          rw [pk_un hk]; exact i6 k hk
        · intro k h5 h6
          show up2 (up2 q0.2.2 5 _) 6 _ k = A k
          rw [up2_n h6, up2_n h5]; exact i7 k h5 h6
end RC
theorem K_same {at1 : Int32} {sz N K K2 : Nat} {P Q : Prop} (hsz : sz ≤ 40) (hN : N ≤ 6) (h1 : ∀ k, k < K → (0 ≤ at1 + nI (3 * k) ∧ 0 ≤ (3 : Int32) ∧ at1 + nI (3 * k) ≤ nI sz ∧ 3 ≤ nI sz - (at1 + nI (3 * k)))) (h2 : ∀ k, k < K2 → 0 ≤ at1 ∧ at1 ≤ nI sz - 3 * nI k - 3) (hK : K ≤ N) (hK2 : K2 ≤ N) (e1 : (K = N ∧ P) ∨ (K < N ∧ ¬ (0 ≤ at1 + nI (3 * K) ∧ 0 ≤ (3 : Int32) ∧ at1 + nI (3 * K) ≤ nI sz ∧ 3 ≤ nI sz - (at1 + nI (3 * K))) ∧ Q)) {P' Q' : Prop} (e2 : (K2 = N ∧ P') ∨ (K2 < N ∧ ¬ (0 ≤ at1 ∧ at1 ≤ nI sz - 3 * nI K2 - 3) ∧ Q')) : K = K2 := by
  rcases Nat.lt_trichotomy K K2 with h | h | h
  · exfalso
    rcases e1 with ⟨e, _⟩ | ⟨_, e, _⟩
    · omega
    · have r := h2 K h
      exact e ((wc_iff hsz (by omega) (.inl r.1)).mpr r)
  · exact h
  · exfalso
    rcases e2 with ⟨e, _⟩ | ⟨_, e, _⟩
    · omega
    · have r0 := (wc_iff hsz (k := 0) (by omega) (.inr rfl)).mp (h1 0 (by omega))
      exact e ((wc_iff hsz (by omega) (.inl r0.1)).mp (h1 K2 h))
section UN
variable {g z : Nat → Int32} {a q u v b c y : Nat → Nat → Int32} {t tc : Nat} {TX : PH} {G Z : Nat → Int32} {W : Int64} {A B : Nat → Nat → Int32} {m n : Nat} {Vs : Nat → (Nat → Int32) → Int32 → Int32}
theorem j_witnesses (hI : TIE g a q u v c y t tc TX G A m n Vs) (s so at1 w : Int32) : JI mX10_witnesses 9 mX11_witnesses 8 [.int s, .int so, .int at1, .int w] (hX g a q u v z b c y t tc TX) (hC G Z W A B) := by
  have hO := hI.O
  obtain ⟨⟨⟨m1, m2, m6⟩, ⟨c1, c2, c6⟩, ⟨t1, t2, tt⟩, ⟨n1, n2, n160⟩, ag⟩, ⟨xl, xs, xa⟩, hP, hL, hW, hC, hM, hH⟩ := id hI
  obtain ⟨cd, en, L, hR, hT⟩ := xs t tt
  obtain ⟨hS1, hTV⟩ := xa t tt
  have hWk := hW.wok m6
  have hLq := hL.eq
  rcases sh_dich s with ⟨s1, s2⟩ | ⟨s1, s2, j, hj, rfl⟩
  · exact JI.ff (k_wits_s hO s1 so at1 w) (wits_no s so at1 w (fun z => s2 z.1)) rfl rfl (INV.of hI)
  by_cases h : (0 ≤ so ∧ so ≤ 2) ∧ 0 ≤ w ∧ w ≤ 6
  · rcases hH.of hj with ⟨a14, u1⟩ | ⟨a14, u1, sz, hk, hso, e1, e2, e3, e4⟩
    · exact JI.ff (k_wits_none hO hj h at1 u1) (wits_none hj so at1 w h a14) rfl rfl (INV.of hI)
    by_cases hu : u j 1 = so
    · obtain ⟨N, hN, rfl⟩ := small_nI (N := 6) (by decide) h.2
      have hu2 : A 15 j = so := e1.symm.trans hu
      have hx := k_wits (g := g) (a := a) (v := v) (p0 := (m, q)) (z := z) (b := b) (c := c) (y := y) (t := t) (tc := tc) hO hj m6 (at1 := at1) h.1 hN u1 hu e2
      rw [show upd g 1 (nI (m, q).1) = g from upd_self m1] at hx
      have hm := wits_ok (p0 := (m, G, A)) (z := Z) (w := W) (b := B) hj hN at1 h.1 a14 hu2 e3 hk m2 m6
      refine JI.mk hx hm rfl (fun _ _ ⟨_, _, _, _, _, _, _, e1, e⟩ => ⟨by rw [e, hX_len]; omega, e1.elim (fun z => ⟨_, z.2⟩) (fun z => ⟨_, z.2.2⟩)⟩) (fun _ _ ⟨_, _, _, _, _, _, _, e⟩ => by rw [e]; rfl) ?_
      rintro r1 _ r2 _ ⟨K, p', c', hK, hr, hp6, hcs, hend, rfl⟩ ⟨K2, q2, d', hK2, hr2, hcs2, hend2, rfl⟩
      have hKK := K_same hk hN hcs hcs2 hK hK2 hend hend2
      subst hKK
      have hrun : c' = d' ∧ p'.1 = q2.1 ∧ p'.1 ≤ 6 ∧ TW p'.2 q2.2.2 p'.1 ∧ q2.2.1 11 = nI p'.1 ∧ (∀ k, k ≠ 11 → q2.2.1 k = G k) ∧ (∀ k, k ≠ 5 → k ≠ 6 → q2.2.2 k = A k) ∧ m ≤ p'.1 := by
        cases K with
        | zero =>
          obtain ⟨rfl, rfl⟩ := hr
          obtain ⟨rfl, rfl⟩ := hr2
          exact ⟨rfl, rfl, m6, hW, m2, fun _ _ => rfl, fun _ _ _ => rfl, Nat.le_refl _⟩
        | succ K =>
          have hc := hcs2 K (Nat.lt_succ_self K)
          obtain ⟨p, hp, rfl⟩ := nI_of (Int32.not_lt.mpr hc.1)
          have hle : p + 3 * (K + 1) ≤ sz := by
            have ts : (nI sz).toInt = (sz : Int) := nI_toInt (by omega)
            have tp : (nI p).toInt = (p : Int) := nI_toInt hp
            have t3 : (3 : Int32).toInt = 3 := by decide
            have tk : (nI (3 * K)).toInt = ((3 * K : Nat) : Int) := nI_toInt (by omega)
            have q1 := Int32.le_iff_toInt_le.mp hc.2
            have f1 : (nI sz - 3 * nI K).toInt = (sz : Int) - 3 * K := by
              rw [show (3 : Int32) * nI K = nI (3 * K) from pk_mul 3 K, Int32.toInt_sub, ts, tk]
              rw [Int.bmod_eq_of_le (by omega) (by omega)]; omega
            have f2 : (nI sz - 3 * nI K - 3).toInt = (sz : Int) - 3 * K - 3 := by
              rw [Int32.toInt_sub, f1, t3]; exact Int.bmod_eq_of_le (by omega) (by omega)
            rw [tp, f2] at q1
            omega
          rw [nI_clamp hp] at hr2
          exact run_c e4 hk hW m6 m2 (K + 1) hle p' c' q2 d' hr hr2
      obtain ⟨g1, g2, g3, g4, g5, g6, g7, g8⟩ := hrun
      refine ⟨?_, ?_⟩
      · rcases hend with ⟨x1, rfl⟩ | ⟨x1, x2, rfl⟩
        · rcases hend2 with ⟨y1, rfl⟩ | ⟨y1, y2, rfl⟩
          · exact ⟨_, rfl, by rw [g1]⟩
          · omega
        · rcases hend2 with ⟨y1, rfl⟩ | ⟨y1, y2, rfl⟩
          · omega
          · exact ⟨_, rfl, rfl⟩
      · have k3 := g6 3 (by decide)
        have k4 := g6 4 (by decide)
        have k6 := g6 6 (by decide)
        have k7 := g6 7 (by decide)
        refine INV.of (m := p'.1) (n := n) (Vs := Vs) ⟨⟨⟨rfl, g5, g3⟩, ⟨c1, k3.trans c2, c6⟩, ⟨t1, k4.trans t2, tt⟩, ⟨n1, k6.trans n2, n160⟩, ag.trans k7.symm⟩, ⟨xl, xs, ?_⟩, ?_, ?_, g4, hC, ?_, ?_⟩
        · intro i hi
          have r1 := g7 1 (by decide) (by decide)
          have r2 := g7 2 (by decide) (by decide)
          obtain ⟨x1, x2⟩ := xa i hi
          refine ⟨?_, ?_⟩
          · unfold Std1 Std TxOK rdT at x1 ⊢
            rw [r1, r2]; exact x1
          · unfold TV rdT at x2 ⊢
            rw [r1, r2]; exact x2
        · intro i hi
          rw [g7 3 (by decide) (by decide)]; exact hP i hi
        · rw [g7 4 (by decide) (by decide)]; exact hL
        · unfold TI at hM ⊢
          rw [g6 34 (by decide), g6 35 (by decide), g6 36 (by decide), g7 12 (by decide) (by decide), g7 13 (by decide) (by decide)]
          rcases hM with h | ⟨h1, kc, i, h2, h3⟩
          · exact .inl h
          · exact .inr ⟨h1, kc, i, by omega, h3⟩
        · intro i hi
          have := hH i hi
          unfold THj at this ⊢
          rw [g7 14 (by decide) (by decide), g7 15 (by decide) (by decide), g7 16 (by decide) (by decide), g7 17 (by decide) (by decide)]
          exact this
    · have hu2 : ¬ A 15 j = so := fun z => hu (e1.trans z)
      exact JI.ff (k_wits_unlike hO hj h at1 u1 hu) (wits_unlike hj so at1 w h a14 hu2) rfl rfl (INV.of hI)
  · exact JI.ff (k_wits_no hO hj h at1) (wits_no (nI j) so at1 w (fun z => h z.2)) rfl rfl (INV.of hI)
/-- texts that stood stand on when one more is laid behind them -/
theorem TT.keep (xa : ∀ i, i < tc → Std1 A i ∧ TV A i (Vs i)) (F : Nat → Int32) (n : Nat) : ∀ i, i < tc → Std1 (up2 (up2 A 1 (va_cpy F (A 1) 0 (160 * tc) n)) 2 (upd (A 2) tc (nI n))) i ∧ TV (up2 (up2 A 1 (va_cpy F (A 1) 0 (160 * tc) n)) 2 (upd (A 2) tc (nI n))) i (Vs i) := fun i hi => by
  obtain ⟨x1, x2⟩ := xa i hi
  have r2 : up2 (up2 A 1 (va_cpy F (A 1) 0 (160 * tc) n)) 2 (upd (A 2) tc (nI n)) 2 i = A 2 i := by rw [up2v]; exact pk_un (by omega)
  have r1 : ∀ j, j < 160 → up2 (up2 A 1 (va_cpy F (A 1) 0 (160 * tc) n)) 2 (upd (A 2) tc (nI n)) 1 (160 * i + j) = A 1 (160 * i + j) := fun j hj => by
    show (if 160 * tc ≤ 160 * i + j ∧ 160 * i + j < 160 * tc + n then _ else A 1 (160 * i + j)) = _
    exact if_neg (by omega)
  obtain ⟨y1, y2, ⟨y3, y4, y5⟩, y6⟩ := x1
  have hB : Bt (up2 (up2 A 1 (va_cpy F (A 1) 0 (160 * tc) n)) 2 (upd (A 2) tc (nI n)) 1) (160 * i) (A 2 i).toNatClampNeg = Bt (A 1) (160 * i) (A 2 i).toNatClampNeg := by
    funext j
    unfold Bt
    by_cases h : j < (A 2 i).toNatClampNeg
    · rw [if_pos h, if_pos h, r1 j (by omega)]
    · rw [if_neg h, if_neg h]
  have hD : ∀ e, rdT (up2 (up2 A 1 (va_cpy F (A 1) 0 (160 * tc) n)) 2 (upd (A 2) tc (nI n))) i (A 2 i).toNatClampNeg e = rdT A i (A 2 i).toNatClampNeg e := fun e => by
    unfold rdT; rw [hB]
  refine ⟨?_, fun e k => ?_⟩
  · unfold Std1
    rw [r2]
    exact ⟨y1, by rw [r2]; exact y2, ⟨y3, y4, fun j hj => by rw [r1 j (by omega)]; exact y5 j hj⟩, fun e => by rw [hD]; exact y6 e⟩
  · rw [r2, hD]; exact x2 e k
theorem TxI.app {i L : Nat} {cd en : Nat → Int32} (h : TxI TX i cd en L) (T2 : PH) : TxI (TX ++ T2) i cd en L := by
  obtain ⟨h1, h2, h3⟩ := h
  exact ⟨by rw [lg_app1 (lg_lt h1)]; exact h1, by rw [lg_app1 (lg_lt h2)]; exact h2, by rw [lg_app1 (lg_lt h3)]; exact h3⟩
theorem TxI.nw (hl : TX.length = 3 * tc) (L : Nat) (f e : Nat → Int32) : TxI (TX ++ nwT tc L f e) tc f e L := by
  refine ⟨?_, ?_, ?_⟩
  · have h := lg_app (h := TX) (h2 := nwT tc L f e) (k := 0); rw [hl] at h; exact h
  · have h := lg_app (h := TX) (h2 := nwT tc L f e) (k := 1); rw [hl] at h; exact h
  · have h := lg_app (h := TX) (h2 := nwT tc L f e) (k := 2); rw [hl] at h; exact h
theorem Bt_tape {F H : Nat → Int32} {tc n : Nat} : Bt (va_cpy F H 0 (160 * tc) n) (160 * tc) n = Bt F 0 n := by
  funext j
  unfold Bt
  by_cases h : j < n
  · rw [if_pos h, if_pos h]
    show (if 160 * tc ≤ 160 * tc + j ∧ 160 * tc + j < 160 * tc + n then F (0 + (160 * tc + j - 160 * tc)) else _) = _
    rw [if_pos (by omega), Nat.add_sub_cancel_left]
  · rw [if_neg h, if_neg h]
def vsA (Vs : Nat → (Nat → Int32) → Int32 → Int32) (tc : Nat) (V : (Nat → Int32) → Int32 → Int32) : Nat → (Nat → Int32) → Int32 → Int32 := fun i => if i = tc then V else Vs i
theorem vsA_s {V : (Nat → Int32) → Int32 → Int32} : vsA Vs tc V tc = V := if_pos rfl
theorem vsA_n {V : (Nat → Int32) → Int32 → Int32} {i : Nat} (h : i ≠ tc) : vsA Vs tc V i = Vs i := if_neg h
theorem CK.more {V : (Nat → Int32) → Int32 → Int32} (hC : CK Vs tc c y) : CK (vsA Vs tc V) (tc + 1) c y := fun x hx => by
  rcases hC x hx with h | ⟨j, hj, h1, h2⟩
  · exact .inl h
  · exact .inr ⟨j, by omega, h1, fun k hk => by rw [vsA_n (by omega)]; exact h2 k hk⟩
theorem j_text (hI : TIE g a q u v c y t tc TX G A m n Vs) : JI mX10_text 2 mX11_text 2 [] (hX g a q u v z b c y t tc TX) (hC G Z W A B) := by
  have hO := hI.O
  obtain ⟨⟨⟨m1, m2, m6⟩, ⟨c1, c2, c6⟩, ⟨t1, t2, tt⟩, ⟨n1, n2, n160⟩, ag⟩, ⟨xl, xs, xa⟩, hP, hL, hW, hC, hM, hH⟩ := id hI
  obtain ⟨cd, en, L, hR, hT⟩ := xs t tt
  obtain ⟨hS1, hTV⟩ := xa t tt
  have hWk := hW.wok m6
  have hLq := hL.eq
  by_cases h6 : tc = 6
  · subst h6
    exact JI.ff (k_text_full hO c1) (text_full c2) rfl rfl (INV.of hI)
  have hB : RdOK (a 5) n (Bt (A 3) 0 n) := ⟨n160, fun j hj => by unfold Bt; rw [if_pos hj, Nat.zero_add]; exact (hP j hj).1, fun j hj => if_neg (by omega)⟩
  have hb : ∀ j, j < n → 0 ≤ Bt (A 3) 0 n j := fun j hj => by unfold Bt; rw [if_pos hj, Nat.zero_add]; exact (hP j hj).2.1
  have hTx : TxOK (up2 (up2 A 1 (va_cpy (A 3) (A 1) 0 (160 * tc) n)) 2 (upd (A 2) tc (nI n))) (160 * tc) n := by
    refine ⟨by omega, n160, fun j hj => ?_⟩
    have e : up2 (up2 A 1 (va_cpy (A 3) (A 1) 0 (160 * tc) n)) 2 (upd (A 2) tc (nI n)) 1 (160 * tc + j) = A 3 j := by
      show (if 160 * tc ≤ 160 * tc + j ∧ 160 * tc + j < 160 * tc + n then A 3 (0 + (160 * tc + j - 160 * tc)) else _) = _
      rw [if_pos (by omega), Nat.add_sub_cancel_left, Nat.zero_add]
    rw [e]; exact (hP j hj).2
  have hRR : ∀ f, txR A tc n f = rText (sg (Bt (A 3) 0 n)) (nx (Bt (A 3) 0 n)) (vA f) (skp (Bt (A 3) 0 n) 0) := fun f => by
    unfold txR; rw [Bt_tape]
  have hP0 : ∀ a', TP a' (up2 (up2 A 1 (va_cpy (A 3) (A 1) 0 (160 * tc) n)) 2 (upd (A 2) tc (nI n))) 0 := fun _ j hj => absurd hj (Nat.not_lt_zero j)
  rcases hX : rText (sg (Bt (A 3) 0 n)) (nx (Bt (A 3) 0 n)) cA (skp (Bt (A 3) 0 n) 0) with qq | ⟨x, w1, w⟩
  · have r2 := text_bad (z := Z) (w := W) (b := B) c2 (by omega) n2 n160 hTx ((hRR Z).trans (TX_bad hX Z))
    refine JI.mk (k_text_bad hO c1 (by omega) n1 hB hb hX) r2 rfl (fun _ _ ⟨_, _, e1, e⟩ => ⟨by rw [e, hX_len]; omega, _, e1⟩) (fun _ _ ⟨_, _, _, e⟩ => by rw [e]; rfl) ?_
    rintro _ _ _ _ ⟨z', b', rfl, rfl⟩ ⟨z2, w2, rfl, rfl⟩
    refine ⟨⟨_, rfl, rfl⟩, ?_⟩
    exact INV.of (m := m) (n := 0) (Vs := Vs) ⟨⟨⟨m1, m2, m6⟩, ⟨c1, c2, c6⟩, ⟨t1, t2, tt⟩, ⟨rfl, rfl, by decide⟩, ag⟩, ⟨xl, xs, TT.keep xa _ n⟩, hP0 a, hL, hW, hC, hM, hH⟩
  · obtain ⟨⟨v1, v2, v3⟩, hv⟩ := TX_std hX Z
    have r2 := text_ok (z := Z) (w := W) (b := B) c2 (by omega) n2 n160 hTx ((hRR Z).trans hv)
    refine JI.mk (k_text_ok xl tt xs hO c1 (by omega) n1 hB hb hX) r2 rfl (fun _ _ ⟨_, _, _, _, _, e1, e⟩ => ⟨by rw [e, hX_len, List.length_append]; show TX.length + 3 + 46 ≤ 64; omega, _, e1⟩) (fun _ _ ⟨_, _, _, e⟩ => by rw [e]; rfl) ?_
    rintro _ _ _ _ ⟨z', b', f', e', hok, rfl, rfl⟩ ⟨z2, w2, rfl, rfl⟩
    refine ⟨⟨_, rfl, rfl⟩, ?_⟩
    refine INV.of (m := m) (n := 0) (Vs := vsA Vs tc (txV (Bt (A 3) 0 n))) ⟨⟨⟨m1, m2, m6⟩, ⟨rfl, rfl, by omega⟩, ⟨t1, t2, by omega⟩, ⟨rfl, rfl, by decide⟩, ag⟩, ⟨?_, ?_, ?_⟩, hP0 a, hL, hW, hC.more, ?_, hH⟩
    · rw [List.length_append, xl]; rfl
    · intro i hi
      by_cases e : i = tc
      · subst e
        exact ⟨f', e', _, TxI.nw xl _ f' e', by rw [vsA_s]; exact hok⟩
      · obtain ⟨cd2, en2, L2, q1, q2⟩ := xs i (by omega)
        exact ⟨cd2, en2, L2, q1.app _, by rw [vsA_n e]; exact q2⟩
    · intro i hi
      by_cases e : i = tc
      · subst e
        have r2 : up2 (up2 A 1 (va_cpy (A 3) (A 1) 0 (160 * i) n)) 2 (upd (A 2) i (nI n)) 2 i = nI n := by rw [up2v]; exact pk_us
        have hD : ∀ e, rdT (up2 (up2 A 1 (va_cpy (A 3) (A 1) 0 (160 * i) n)) 2 (upd (A 2) i (nI n))) i n e = rText (sg (Bt (A 3) 0 n)) (nx (Bt (A 3) 0 n)) (vA e) (skp (Bt (A 3) 0 n) 0) := fun e => hRR e
        refine ⟨?_, fun e k => ?_⟩
        · unfold Std1
          rw [r2, nI_clamp (by omega)]
          exact ⟨by omega, r2, hTx, fun e => by rw [hD]; exact TX_std hX e⟩
        · rw [r2, nI_clamp (by omega), hD, vsA_s]; rfl
      · rw [vsA_n e]
        exact TT.keep xa _ n i (by omega)
    · rcases hM with h | ⟨h1, kc, i, h2, h3, h4⟩
      · exact .inl h
      · exact .inr ⟨h1, kc, i, h2, by omega, h4⟩
end UN
