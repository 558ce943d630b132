/-! ===== laid by program (wip/tools) ===== -/
def QnT (g : Nat → Int32) (a : Nat → Nat → Int32) (fr n q : Nat) (op bd fl : Int32) : Option Value → PH → Prop := fun r h' => ∃ w', r = none ∧ h' = hT g a (nI fr) (nI n) (nI (en (Bt (a 1) fr n) q)) (kd (Bt (a 1) fr n) q) (nI q) w' op bd fl ∧ wOK (Bt (a 1) fr n) q w'
theorem nt_letters {g : Nat → Int32} {a : Nat → Nat → Int32} {fr n : Nat} (hT0 : TxOK a fr n) {q E : Nat} {w : Int64} {op bd fl b : Int32} (hen : en (Bt (a 1) fr n) q = E) (hkd : kd (Bt (a 1) fr n) q = 1) : ∀ (k e : Nat), e ≤ n → n ≤ e + k → adv isLt (Bt (a 1) fr n) k e = E → P0 1 0 0 mX11_nextToken (100, [some (.ref 0), some (.int b), none], [], hT g a (nI fr) (nI n) (nI e) 1 (nI q) w op bd fl) (QnT g a fr n q op bd fl)
  | 0, e, h1, h2, he => by
    obtain ⟨hT1, hT2, hT3⟩ := id hT0
    refine P0.b GX11_nextToken 3 (ob := []) (cf' := (105, [some (.ref 0), some (.int b), none], [.int (nI e), .ref 0], hT g a (nI fr) (nI n) (nI e) 1 (nI q) w op bd fl)) rfl trivial ?_
    refine P0.cd (d0 := 0) (as := [.ref 0, .int (nI e)]) (rest := []) (r1 := some (.int (Bt (a 1) fr n e))) (h1 := hT g a (nI fr) (nI n) (nI e) 1 (nI q) w op bd fl) (st' := [.int (Bt (a 1) fr n e)]) GX11_byteAt kX11_nextToken_105 rfl ⟨_, _, rfl, rfl, .inl ⟨_, _, _, _, rfl, rfl⟩⟩ (Nat.le_of_ble_eq_true rfl) (Nat.le_of_ble_eq_true rfl) (e_byteT hT0 e (by omega)) (Nat.le_of_ble_eq_true rfl) rfl (Nat.le_of_ble_eq_true rfl) rfl ?_
    refine P0.b GX11_nextToken 3 (ob := []) (cf' := (115, [some (.ref 0), some (.int b), none], [.long 122, .long 97, .long ((Bt (a 1) fr n e).toInt64)], hT g a (nI fr) (nI n) (nI e) 1 (nI q) w op bd fl)) rfl trivial ?_
    refine P0.cr (io := []) (as := [.long ((Bt (a 1) fr n e).toInt64), .long ((97 : Int32).toInt64), .long ((122 : Int32).toInt64)]) (rest := []) (hc := []) (hc1 := []) (r1 := some (.int (if 97 ≤ Bt (a 1) fr n e ∧ Bt (a 1) fr n e ≤ 122 then 1 else 0))) (st' := [.int (if 97 ≤ Bt (a 1) fr n e ∧ Bt (a 1) fr n e ≤ 122 then 1 else 0)]) (h' := hT g a (nI fr) (nI n) (nI e) 1 (nI q) w op bd fl) (d0 := 0) GX11_in kX11_nextToken_115 rfl rfl (Nat.le_of_ble_eq_true rfl) (Nat.le_of_ble_eq_true rfl) rfl trivial (e_in32 (Bt (a 1) fr n e) 97 122) (Nat.le_of_ble_eq_true rfl) rfl (Nat.le_of_ble_eq_true rfl) (Nat.le_of_ble_eq_true rfl) rfl rfl ?_
    refine P0.b GX11_nextToken 1 (ob := []) (cf' := (if (if 97 ≤ Bt (a 1) fr n e ∧ Bt (a 1) fr n e ≤ 122 then 1 else 0) = 0 then 321 else 121, [some (.ref 0), some (.int b), none], [], hT g a (nI fr) (nI n) (nI e) 1 (nI q) w op bd fl)) rfl trivial ?_
    refine P0.ifB (fun h1 => ?_) (fun h1 => ?_)
    · exact P0.rv (by decide +kernel) rfl ⟨w, rfl, by rw [hen, hkd, ← he, adv_self (by simp only [isLt]; exact decide_eq_false h1)], fun z => absurd (hkd.symm.trans z) (by decide), fun z => absurd (hkd.symm.trans z) (by decide)⟩
    · refine P0.b GX11_nextToken 7 (ob := []) (cf' := (100, [some (.ref 0), some (.int b), none], [], hT g a (nI fr) (nI n) ((nI e) + 1) 1 (nI q) w op bd fl)) rfl trivial ?_
      exact absurd (show isLt (Bt (a 1) fr n e) = true from by simp only [isLt]; exact decide_eq_true h1) (by rw [lt_out e (by omega)]; decide)
  | k + 1, e, h1, h2, he => by
    obtain ⟨hT1, hT2, hT3⟩ := id hT0
    refine P0.b GX11_nextToken 3 (ob := []) (cf' := (105, [some (.ref 0), some (.int b), none], [.int (nI e), .ref 0], hT g a (nI fr) (nI n) (nI e) 1 (nI q) w op bd fl)) rfl trivial ?_
    refine P0.cd (d0 := 0) (as := [.ref 0, .int (nI e)]) (rest := []) (r1 := some (.int (Bt (a 1) fr n e))) (h1 := hT g a (nI fr) (nI n) (nI e) 1 (nI q) w op bd fl) (st' := [.int (Bt (a 1) fr n e)]) GX11_byteAt kX11_nextToken_105 rfl ⟨_, _, rfl, rfl, .inl ⟨_, _, _, _, rfl, rfl⟩⟩ (Nat.le_of_ble_eq_true rfl) (Nat.le_of_ble_eq_true rfl) (e_byteT hT0 e (by omega)) (Nat.le_of_ble_eq_true rfl) rfl (Nat.le_of_ble_eq_true rfl) rfl ?_
    refine P0.b GX11_nextToken 3 (ob := []) (cf' := (115, [some (.ref 0), some (.int b), none], [.long 122, .long 97, .long ((Bt (a 1) fr n e).toInt64)], hT g a (nI fr) (nI n) (nI e) 1 (nI q) w op bd fl)) rfl trivial ?_
    refine P0.cr (io := []) (as := [.long ((Bt (a 1) fr n e).toInt64), .long ((97 : Int32).toInt64), .long ((122 : Int32).toInt64)]) (rest := []) (hc := []) (hc1 := []) (r1 := some (.int (if 97 ≤ Bt (a 1) fr n e ∧ Bt (a 1) fr n e ≤ 122 then 1 else 0))) (st' := [.int (if 97 ≤ Bt (a 1) fr n e ∧ Bt (a 1) fr n e ≤ 122 then 1 else 0)]) (h' := hT g a (nI fr) (nI n) (nI e) 1 (nI q) w op bd fl) (d0 := 0) GX11_in kX11_nextToken_115 rfl rfl (Nat.le_of_ble_eq_true rfl) (Nat.le_of_ble_eq_true rfl) rfl trivial (e_in32 (Bt (a 1) fr n e) 97 122) (Nat.le_of_ble_eq_true rfl) rfl (Nat.le_of_ble_eq_true rfl) (Nat.le_of_ble_eq_true rfl) rfl rfl ?_
    refine P0.b GX11_nextToken 1 (ob := []) (cf' := (if (if 97 ≤ Bt (a 1) fr n e ∧ Bt (a 1) fr n e ≤ 122 then 1 else 0) = 0 then 321 else 121, [some (.ref 0), some (.int b), none], [], hT g a (nI fr) (nI n) (nI e) 1 (nI q) w op bd fl)) rfl trivial ?_
    refine P0.ifB (fun h2 => ?_) (fun h2 => ?_)
    · exact P0.rv (by decide +kernel) rfl ⟨w, rfl, by rw [hen, hkd, ← he, adv_self (by simp only [isLt]; exact decide_eq_false h2)], fun z => absurd (hkd.symm.trans z) (by decide), fun z => absurd (hkd.symm.trans z) (by decide)⟩
    · refine P0.b GX11_nextToken 7 (ob := []) (cf' := (100, [some (.ref 0), some (.int b), none], [], hT g a (nI fr) (nI n) ((nI e) + 1) 1 (nI q) w op bd fl)) rfl trivial ?_
      have hlt : e < n := by
        rcases Nat.lt_or_ge e n with z | z
        · exact z
        · exact absurd (show isLt (Bt (a 1) fr n e) = true from by simp only [isLt]; exact decide_eq_true h2) (by rw [lt_out e z]; decide)
      rw [nI_1]
      refine nt_letters hT0 hen hkd k (e + 1) hlt (by omega) ?_
      rw [← he, adv_step (show isLt (Bt (a 1) fr n e) = true from by simp only [isLt]; exact decide_eq_true h2)]
def numL (B : Nat → Int32) (q c : Nat) : Int64 := it (fun i x => if i < 4 then 10 * x + (B (q + i)).toInt64 - 48 else x) c 0
theorem num_nat (B : Nat → Int32) (q : Nat) : ∀ c, c ≤ 4 → (∀ i, i < c → isDg (B (q + i)) = true) → ∃ v, v < 10 ^ c ∧ num B q c = nI v ∧ numL B q c = lN v
  | 0, _, _ => ⟨0, by decide, rfl, rfl⟩
  | c + 1, hc, hd => by
    obtain ⟨v, h1, h2, h3⟩ := num_nat B q c (by omega) (fun i hi => hd i (by omega))
    have h4 := hd c (by omega)
    simp only [isDg, decide_eq_true_eq] at h4
    obtain ⟨b, hb, hb2⟩ := nI_of2 (M := 57) (n := 57) (by decide) (x := B (q + c)) (by have := h4.1; intro z; exact absurd (Int32.lt_of_le_of_lt this z) (by decide)) h4.2
    have hb48 : 48 ≤ b := by
      have := h4.1
      rw [hb2] at this
      exact (nI_leI (a := 48) (by decide) (by omega)).mp this
    have hv : v < 10000 := Nat.lt_of_lt_of_le h1 (by have : c ≤ 4 := by omega
                                                     exact Nat.le_trans (Nat.pow_le_pow_right (by decide) this) (by decide))
    refine ⟨v * 10 + (b - 48), ?_, ?_, ?_⟩
    · rw [Nat.pow_succ]; omega
    · show num B q c * 10 + B (q + c) - 48 = _
      rw [h2, hb2, show (10 : Int32) = nI 10 from rfl, show (48 : Int32) = nI 48 from rfl, pk_mul, nI_add, pk_sub (by omega)]
      congr 1
      omega
    · show (if c < 4 then 10 * numL B q c + (B (q + c)).toInt64 - 48 else numL B q c) = _
      rw [if_pos (by omega), h3, hb2, nI_l (by omega), show (10 : Int64) = lN 10 from rfl, show (48 : Int64) = lN 48 from rfl, lN_mul, lN_add, lN_sub (by omega)]
      congr 1
      omega
theorem nt_dig_end {g : Nat → Int32} {a : Nat → Nat → Int32} {fr n : Nat} (hT0 : TxOK a fr n) {q E c : Nat} {op bd fl tk : Int32} (hq : q ≤ n) (hb0 : ¬ Bt (a 1) fr n q < 0) (hb1 : ¬ isLt (Bt (a 1) fr n q) = true) (hb2 : isDg (Bt (a 1) fr n q) = true) (hE : eoD (Bt (a 1) fr n) q = E) (hc : E = q + c) (ht : (nI c ≤ 4 ∧ tk = 2) ∨ (¬ nI c ≤ 4 ∧ tk = 4)) : QnT g a fr n q op bd fl none (hT g a (nI fr) (nI n) (nI (q + c)) tk (nI q) (numL (Bt (a 1) fr n) q c) op bd fl) := by
  obtain ⟨hT1, hT2, hT3⟩ := id hT0
  have hEn : E ≤ n := by rw [← hE]; exact adv_le dg_out _ _ hq
  have hen : en (Bt (a 1) fr n) q = q + c := by simp [en, hb0, hb1, hb2, hE, hc]
  have hcl : nI c ≤ 4 ↔ c ≤ 4 := nI_leI (b := 4) (by omega) (by decide)
  have hkd : kd (Bt (a 1) fr n) q = tk := by
    rcases ht with ⟨h, e⟩ | ⟨h, e⟩
    · have := hcl.mp h
      simp [kd, hb0, hb1, hb2, hE, hc, e, show ¬ 4 < c by omega]
    · have : ¬ c ≤ 4 := fun z => h (hcl.mpr z)
      simp [kd, hb0, hb1, hb2, hE, hc, e, show 4 < c by omega]
  refine ⟨_, rfl, by rw [hen, hkd], fun z => ?_, fun z => ?_⟩
  · rw [hkd] at z
    rcases ht with ⟨h, e⟩ | ⟨h, e⟩
    · have h4 := hcl.mp h
      have hs : sg (Bt (a 1) fr n) q = num (Bt (a 1) fr n) q c := by simp [sg, hb0, hb1, hb2, hE, hc, show ¬ 4 < c by omega]
      have hadv : adv isDg (Bt (a 1) fr n) 200 q = q + c := hE.trans hc
      obtain ⟨v, g1, g2, g3⟩ := num_nat (Bt (a 1) fr n) q c h4 (fun i hi => adv_all 200 q (q + i) (by omega) (by rw [hadv]; omega))
      have hv : v < 10000 := Nat.lt_of_lt_of_le g1 (Nat.le_trans (Nat.pow_le_pow_right (by decide) h4) (by decide))
      rw [hs, g2, g3, nI_l (by omega)]
    · rw [e] at z; exact absurd z (by decide)
  · rw [hkd] at z
    rcases ht with ⟨h, e⟩ | ⟨h, e⟩ <;> rw [e] at z <;> exact absurd z (by decide)
theorem nt_digits {g : Nat → Int32} {a : Nat → Nat → Int32} {fr n : Nat} (hT0 : TxOK a fr n) {q E : Nat} {op bd fl b : Int32} (hq : q ≤ n) (hb0 : ¬ Bt (a 1) fr n q < 0) (hb1 : ¬ isLt (Bt (a 1) fr n q) = true) (hb2 : isDg (Bt (a 1) fr n q) = true) (hE : eoD (Bt (a 1) fr n) q = E) : ∀ (k c : Nat), q + c ≤ n → n ≤ q + c + k → adv isDg (Bt (a 1) fr n) k (q + c) = E → P0 1 0 0 mX11_nextToken (160, [some (.ref 0), some (.int b), some (.int (nI c))], [], hT g a (nI fr) (nI n) (nI (q + c)) 2 (nI q) (numL (Bt (a 1) fr n) q c) op bd fl) (QnT g a fr n q op bd fl)
  | 0, c, h1, h2, he => by
    obtain ⟨hT1, hT2, hT3⟩ := id hT0
    refine P0.b GX11_nextToken 3 (ob := []) (cf' := (165, [some (.ref 0), some (.int b), some (.int (nI c))], [.int (nI (q + c)), .ref 0], hT g a (nI fr) (nI n) (nI (q + c)) 2 (nI q) (numL (Bt (a 1) fr n) q c) op bd fl)) rfl trivial ?_
    refine P0.cd (d0 := 0) (as := [.ref 0, .int (nI (q + c))]) (rest := []) (r1 := some (.int (Bt (a 1) fr n (q + c)))) (h1 := hT g a (nI fr) (nI n) (nI (q + c)) 2 (nI q) (numL (Bt (a 1) fr n) q c) op bd fl) (st' := [.int (Bt (a 1) fr n (q + c))]) GX11_byteAt kX11_nextToken_165 rfl ⟨_, _, rfl, rfl, .inl ⟨_, _, _, _, rfl, rfl⟩⟩ (Nat.le_of_ble_eq_true rfl) (Nat.le_of_ble_eq_true rfl) (e_byteT hT0 (q + c) (by omega)) (Nat.le_of_ble_eq_true rfl) rfl (Nat.le_of_ble_eq_true rfl) rfl ?_
    refine P0.b GX11_nextToken 3 (ob := []) (cf' := (175, [some (.ref 0), some (.int b), some (.int (nI c))], [.long 57, .long 48, .long ((Bt (a 1) fr n (q + c)).toInt64)], hT g a (nI fr) (nI n) (nI (q + c)) 2 (nI q) (numL (Bt (a 1) fr n) q c) op bd fl)) rfl trivial ?_
    refine P0.cr (io := []) (as := [.long ((Bt (a 1) fr n (q + c)).toInt64), .long ((48 : Int32).toInt64), .long ((57 : Int32).toInt64)]) (rest := []) (hc := []) (hc1 := []) (r1 := some (.int (if 48 ≤ Bt (a 1) fr n (q + c) ∧ Bt (a 1) fr n (q + c) ≤ 57 then 1 else 0))) (st' := [.int (if 48 ≤ Bt (a 1) fr n (q + c) ∧ Bt (a 1) fr n (q + c) ≤ 57 then 1 else 0)]) (h' := hT g a (nI fr) (nI n) (nI (q + c)) 2 (nI q) (numL (Bt (a 1) fr n) q c) op bd fl) (d0 := 0) GX11_in kX11_nextToken_175 rfl rfl (Nat.le_of_ble_eq_true rfl) (Nat.le_of_ble_eq_true rfl) rfl trivial (e_in32 (Bt (a 1) fr n (q + c)) 48 57) (Nat.le_of_ble_eq_true rfl) rfl (Nat.le_of_ble_eq_true rfl) (Nat.le_of_ble_eq_true rfl) rfl rfl ?_
    refine P0.b GX11_nextToken 1 (ob := []) (cf' := (if (if 48 ≤ Bt (a 1) fr n (q + c) ∧ Bt (a 1) fr n (q + c) ≤ 57 then 1 else 0) = 0 then 235 else 181, [some (.ref 0), some (.int b), some (.int (nI c))], [], hT g a (nI fr) (nI n) (nI (q + c)) 2 (nI q) (numL (Bt (a 1) fr n) q c) op bd fl)) rfl trivial ?_
    refine P0.ifB (fun h1 => ?_) (fun h1 => ?_)
    · refine P0.b GX11_nextToken 4 (ob := []) (cf' := (if nI c ≤ 4 then 245 else 241, [some (.ref 0), some (.int b), some (.int (nI c))], [.ref 0], hT g a (nI fr) (nI n) (nI (q + c)) 2 (nI q) (numL (Bt (a 1) fr n) q c) op bd fl)) rfl trivial ?_
      refine P0.if (fun h2 => ?_) (fun h2 => ?_)
      · refine P0.b GX11_nextToken 3 (ob := []) (cf' := (321, [some (.ref 0), some (.int b), some (.int (nI c))], [], hT g a (nI fr) (nI n) (nI (q + c)) 2 (nI q) (numL (Bt (a 1) fr n) q c) op bd fl)) rfl trivial ?_
        exact P0.rv (by decide +kernel) rfl (nt_dig_end hT0 hq hb0 hb1 hb2 hE (by rw [← he, adv_self (by simp only [isDg]; exact decide_eq_false h1)]) (.inl ⟨h2, rfl⟩))
      · refine P0.b GX11_nextToken 4 (ob := []) (cf' := (321, [some (.ref 0), some (.int b), some (.int (nI c))], [], hT g a (nI fr) (nI n) (nI (q + c)) 4 (nI q) (numL (Bt (a 1) fr n) q c) op bd fl)) rfl trivial ?_
        exact P0.rv (by decide +kernel) rfl (nt_dig_end hT0 hq hb0 hb1 hb2 hE (by rw [← he, adv_self (by simp only [isDg]; exact decide_eq_false h1)]) (.inr ⟨h2, rfl⟩))
    · refine P0.b GX11_nextToken 4 (ob := []) (cf' := (if 4 ≤ nI c then 212 else 187, [some (.ref 0), some (.int b), some (.int (nI c))], [.ref 0], hT g a (nI fr) (nI n) (nI (q + c)) 2 (nI q) (numL (Bt (a 1) fr n) q c) op bd fl)) rfl trivial ?_
      refine P0.if (fun h3 => ?_) (fun h3 => ?_)
      · refine P0.b GX11_nextToken 11 (ob := []) (cf' := (160, [some (.ref 0), some (.int b), some (.int ((nI c) + 1))], [], hT g a (nI fr) (nI n) ((nI (q + c)) + 1) 2 (nI q) (numL (Bt (a 1) fr n) q c) op bd fl)) rfl trivial ?_
        exact absurd (show isDg (Bt (a 1) fr n (q + c)) = true from by simp only [isDg]; exact decide_eq_true h1) (by rw [dg_out (q + c) (by omega)]; decide)
      · refine P0.b GX11_nextToken 7 (ob := []) (cf' := (200, [some (.ref 0), some (.int b), some (.int (nI c))], [.int (nI (q + c)), .ref 0, .long (10 * (numL (Bt (a 1) fr n) q c)), .ref 0], hT g a (nI fr) (nI n) (nI (q + c)) 2 (nI q) (numL (Bt (a 1) fr n) q c) op bd fl)) rfl trivial ?_
        refine P0.cd (d0 := 0) (as := [.ref 0, .int (nI (q + c))]) (rest := [.long (10 * (numL (Bt (a 1) fr n) q c)), .ref 0]) (r1 := some (.int (Bt (a 1) fr n (q + c)))) (h1 := hT g a (nI fr) (nI n) (nI (q + c)) 2 (nI q) (numL (Bt (a 1) fr n) q c) op bd fl) (st' := [.int (Bt (a 1) fr n (q + c)), .long (10 * (numL (Bt (a 1) fr n) q c)), .ref 0]) GX11_byteAt kX11_nextToken_200 rfl ⟨_, _, rfl, rfl, .inl ⟨_, _, _, _, rfl, rfl⟩⟩ (Nat.le_of_ble_eq_true rfl) (Nat.le_of_ble_eq_true rfl) (e_byteT hT0 (q + c) (by omega)) (Nat.le_of_ble_eq_true rfl) rfl (Nat.le_of_ble_eq_true rfl) rfl ?_
        refine P0.b GX11_nextToken 14 (ob := []) (cf' := (160, [some (.ref 0), some (.int b), some (.int ((nI c) + 1))], [], hT g a (nI fr) (nI n) ((nI (q + c)) + 1) 2 (nI q) (((10 * (numL (Bt (a 1) fr n) q c)) + ((Bt (a 1) fr n (q + c)).toInt64)) - 48) op bd fl)) rfl trivial ?_
        exact absurd (show isDg (Bt (a 1) fr n (q + c)) = true from by simp only [isDg]; exact decide_eq_true h1) (by rw [dg_out (q + c) (by omega)]; decide)
  | k + 1, c, h1, h2, he => by
    obtain ⟨hT1, hT2, hT3⟩ := id hT0
    refine P0.b GX11_nextToken 3 (ob := []) (cf' := (165, [some (.ref 0), some (.int b), some (.int (nI c))], [.int (nI (q + c)), .ref 0], hT g a (nI fr) (nI n) (nI (q + c)) 2 (nI q) (numL (Bt (a 1) fr n) q c) op bd fl)) rfl trivial ?_
    refine P0.cd (d0 := 0) (as := [.ref 0, .int (nI (q + c))]) (rest := []) (r1 := some (.int (Bt (a 1) fr n (q + c)))) (h1 := hT g a (nI fr) (nI n) (nI (q + c)) 2 (nI q) (numL (Bt (a 1) fr n) q c) op bd fl) (st' := [.int (Bt (a 1) fr n (q + c))]) GX11_byteAt kX11_nextToken_165 rfl ⟨_, _, rfl, rfl, .inl ⟨_, _, _, _, rfl, rfl⟩⟩ (Nat.le_of_ble_eq_true rfl) (Nat.le_of_ble_eq_true rfl) (e_byteT hT0 (q + c) (by omega)) (Nat.le_of_ble_eq_true rfl) rfl (Nat.le_of_ble_eq_true rfl) rfl ?_
    refine P0.b GX11_nextToken 3 (ob := []) (cf' := (175, [some (.ref 0), some (.int b), some (.int (nI c))], [.long 57, .long 48, .long ((Bt (a 1) fr n (q + c)).toInt64)], hT g a (nI fr) (nI n) (nI (q + c)) 2 (nI q) (numL (Bt (a 1) fr n) q c) op bd fl)) rfl trivial ?_
    refine P0.cr (io := []) (as := [.long ((Bt (a 1) fr n (q + c)).toInt64), .long ((48 : Int32).toInt64), .long ((57 : Int32).toInt64)]) (rest := []) (hc := []) (hc1 := []) (r1 := some (.int (if 48 ≤ Bt (a 1) fr n (q + c) ∧ Bt (a 1) fr n (q + c) ≤ 57 then 1 else 0))) (st' := [.int (if 48 ≤ Bt (a 1) fr n (q + c) ∧ Bt (a 1) fr n (q + c) ≤ 57 then 1 else 0)]) (h' := hT g a (nI fr) (nI n) (nI (q + c)) 2 (nI q) (numL (Bt (a 1) fr n) q c) op bd fl) (d0 := 0) GX11_in kX11_nextToken_175 rfl rfl (Nat.le_of_ble_eq_true rfl) (Nat.le_of_ble_eq_true rfl) rfl trivial (e_in32 (Bt (a 1) fr n (q + c)) 48 57) (Nat.le_of_ble_eq_true rfl) rfl (Nat.le_of_ble_eq_true rfl) (Nat.le_of_ble_eq_true rfl) rfl rfl ?_
    refine P0.b GX11_nextToken 1 (ob := []) (cf' := (if (if 48 ≤ Bt (a 1) fr n (q + c) ∧ Bt (a 1) fr n (q + c) ≤ 57 then 1 else 0) = 0 then 235 else 181, [some (.ref 0), some (.int b), some (.int (nI c))], [], hT g a (nI fr) (nI n) (nI (q + c)) 2 (nI q) (numL (Bt (a 1) fr n) q c) op bd fl)) rfl trivial ?_
    refine P0.ifB (fun h4 => ?_) (fun h4 => ?_)
    · refine P0.b GX11_nextToken 4 (ob := []) (cf' := (if nI c ≤ 4 then 245 else 241, [some (.ref 0), some (.int b), some (.int (nI c))], [.ref 0], hT g a (nI fr) (nI n) (nI (q + c)) 2 (nI q) (numL (Bt (a 1) fr n) q c) op bd fl)) rfl trivial ?_
      refine P0.if (fun h5 => ?_) (fun h5 => ?_)
      · refine P0.b GX11_nextToken 3 (ob := []) (cf' := (321, [some (.ref 0), some (.int b), some (.int (nI c))], [], hT g a (nI fr) (nI n) (nI (q + c)) 2 (nI q) (numL (Bt (a 1) fr n) q c) op bd fl)) rfl trivial ?_
        exact P0.rv (by decide +kernel) rfl (nt_dig_end hT0 hq hb0 hb1 hb2 hE (by rw [← he, adv_self (by simp only [isDg]; exact decide_eq_false h4)]) (.inl ⟨h5, rfl⟩))
      · refine P0.b GX11_nextToken 4 (ob := []) (cf' := (321, [some (.ref 0), some (.int b), some (.int (nI c))], [], hT g a (nI fr) (nI n) (nI (q + c)) 4 (nI q) (numL (Bt (a 1) fr n) q c) op bd fl)) rfl trivial ?_
        exact P0.rv (by decide +kernel) rfl (nt_dig_end hT0 hq hb0 hb1 hb2 hE (by rw [← he, adv_self (by simp only [isDg]; exact decide_eq_false h4)]) (.inr ⟨h5, rfl⟩))
    · refine P0.b GX11_nextToken 4 (ob := []) (cf' := (if 4 ≤ nI c then 212 else 187, [some (.ref 0), some (.int b), some (.int (nI c))], [.ref 0], hT g a (nI fr) (nI n) (nI (q + c)) 2 (nI q) (numL (Bt (a 1) fr n) q c) op bd fl)) rfl trivial ?_
      refine P0.if (fun h6 => ?_) (fun h6 => ?_)
      · refine P0.b GX11_nextToken 11 (ob := []) (cf' := (160, [some (.ref 0), some (.int b), some (.int ((nI c) + 1))], [], hT g a (nI fr) (nI n) ((nI (q + c)) + 1) 2 (nI q) (numL (Bt (a 1) fr n) q c) op bd fl)) rfl trivial ?_
        have hlt : q + c < n := by
          rcases Nat.lt_or_ge (q + c) n with z | z
          · exact z
          · exact absurd (show isDg (Bt (a 1) fr n (q + c)) = true from by simp only [isDg]; exact decide_eq_true h4) (by rw [dg_out (q + c) z]; decide)
        have hnx := nt_digits hT0 (g := g) (op := op) (bd := bd) (fl := fl) (b := b) hq hb0 hb1 hb2 hE k (c + 1) hlt (by omega) (by rw [← he, adv_step (show isDg (Bt (a 1) fr n (q + c)) = true from by simp only [isDg]; exact decide_eq_true h4)]; rfl)
        have h4 : ¬ c < 4 := fun z => nI_ge z (by decide) h6
        rw [show numL (Bt (a 1) fr n) q (c + 1) = (if c < 4 then 10 * numL (Bt (a 1) fr n) q c + (Bt (a 1) fr n (q + c)).toInt64 - 48 else numL (Bt (a 1) fr n) q c) from rfl, if_neg h4] at hnx
        rw [nI_1, nI_1]
        exact hnx
      · refine P0.b GX11_nextToken 7 (ob := []) (cf' := (200, [some (.ref 0), some (.int b), some (.int (nI c))], [.int (nI (q + c)), .ref 0, .long (10 * (numL (Bt (a 1) fr n) q c)), .ref 0], hT g a (nI fr) (nI n) (nI (q + c)) 2 (nI q) (numL (Bt (a 1) fr n) q c) op bd fl)) rfl trivial ?_
        refine P0.cd (d0 := 0) (as := [.ref 0, .int (nI (q + c))]) (rest := [.long (10 * (numL (Bt (a 1) fr n) q c)), .ref 0]) (r1 := some (.int (Bt (a 1) fr n (q + c)))) (h1 := hT g a (nI fr) (nI n) (nI (q + c)) 2 (nI q) (numL (Bt (a 1) fr n) q c) op bd fl) (st' := [.int (Bt (a 1) fr n (q + c)), .long (10 * (numL (Bt (a 1) fr n) q c)), .ref 0]) GX11_byteAt kX11_nextToken_200 rfl ⟨_, _, rfl, rfl, .inl ⟨_, _, _, _, rfl, rfl⟩⟩ (Nat.le_of_ble_eq_true rfl) (Nat.le_of_ble_eq_true rfl) (e_byteT hT0 (q + c) (by omega)) (Nat.le_of_ble_eq_true rfl) rfl (Nat.le_of_ble_eq_true rfl) rfl ?_
        refine P0.b GX11_nextToken 14 (ob := []) (cf' := (160, [some (.ref 0), some (.int b), some (.int ((nI c) + 1))], [], hT g a (nI fr) (nI n) ((nI (q + c)) + 1) 2 (nI q) (((10 * (numL (Bt (a 1) fr n) q c)) + ((Bt (a 1) fr n (q + c)).toInt64)) - 48) op bd fl)) rfl trivial ?_
        have hlt : q + c < n := by
          rcases Nat.lt_or_ge (q + c) n with z | z
          · exact z
          · exact absurd (show isDg (Bt (a 1) fr n (q + c)) = true from by simp only [isDg]; exact decide_eq_true h4) (by rw [dg_out (q + c) z]; decide)
        have hnx := nt_digits hT0 (g := g) (op := op) (bd := bd) (fl := fl) (b := b) hq hb0 hb1 hb2 hE k (c + 1) hlt (by omega) (by rw [← he, adv_step (show isDg (Bt (a 1) fr n (q + c)) = true from by simp only [isDg]; exact decide_eq_true h4)]; rfl)
        have h4 : c < 4 := by
          rcases Nat.lt_or_ge c 4 with z | z
          · exact z
          · exact absurd (nI_le z (by omega)) h6
        rw [show numL (Bt (a 1) fr n) q (c + 1) = (if c < 4 then 10 * numL (Bt (a 1) fr n) q c + (Bt (a 1) fr n (q + c)).toInt64 - 48 else numL (Bt (a 1) fr n) q c) from rfl, if_pos h4] at hnx
        rw [nI_1, nI_1]
        exact hnx
theorem nt_end {g : Nat → Int32} {a : Nat → Nat → Int32} {fr n : Nat} (hT0 : TxOK a fr n) {q : Nat} {w : Int64} {op bd fl : Int32} (hq : q ≤ n) (hb : Bt (a 1) fr n q < 0) : QnT g a fr n q op bd fl none (hT g a (nI fr) (nI n) (nI q) 0 (nI n) w op bd fl) := by
  obtain ⟨hT1, hT2, hT3⟩ := id hT0
  have hqn : q = n := by
    rcases Nat.lt_or_ge q n with z | z
    · rw [Bt_in z] at hb
      exact absurd hb (Int32.not_lt.mpr (hT3 q z).1)
    · omega
  have hen : en (Bt (a 1) fr n) q = q := by simp [en, hb]
  have hkd : kd (Bt (a 1) fr n) q = 0 := by simp [kd, hb]
  exact ⟨w, rfl, by rw [hen, hkd, hqn], fun z => absurd (hkd.symm.trans z) (by decide), fun z => absurd (hkd.symm.trans z) (by decide)⟩
theorem nt_sign {g : Nat → Int32} {a : Nat → Nat → Int32} {fr n : Nat} (hT0 : TxOK a fr n) {q : Nat} {op bd fl : Int32} (hq : q ≤ n) (hb0 : ¬ Bt (a 1) fr n q < 0) (hb1 : ¬ isLt (Bt (a 1) fr n q) = true) (hb2 : ¬ isDg (Bt (a 1) fr n q) = true) (hs : ¬ sgC (Bt (a 1) fr n q) = -23) : QnT g a fr n q op bd fl none (hT g a (nI fr) (nI n) (nI q + 1) 3 (nI q) (Bt (a 1) fr n q).toInt64 op bd fl) := by
  have hen : en (Bt (a 1) fr n) q = q + 1 := by simp [en, hb0, hb1, hb2, hs]
  have hkd : kd (Bt (a 1) fr n) q = 3 := by simp [kd, hb0, hb1, hb2, hs]
  exact ⟨_, rfl, by rw [hen, hkd, nI_1], fun z => absurd (hkd.symm.trans z) (by decide), fun z => rfl⟩
theorem nt_none {g : Nat → Int32} {a : Nat → Nat → Int32} {fr n : Nat} (hT0 : TxOK a fr n) {q : Nat} {w : Int64} {op bd fl : Int32} (hq : q ≤ n) (hb0 : ¬ Bt (a 1) fr n q < 0) (hb1 : ¬ isLt (Bt (a 1) fr n q) = true) (hb2 : ¬ isDg (Bt (a 1) fr n q) = true) (hs : sgC (Bt (a 1) fr n q) = -23) : QnT g a fr n q op bd fl none (hT g a (nI fr) (nI n) (nI q) 4 (nI q) w op bd fl) := by
  have hen : en (Bt (a 1) fr n) q = q := by simp [en, hb0, hb1, hb2, hs]
  have hkd : kd (Bt (a 1) fr n) q = 4 := by simp [kd, hb0, hb1, hb2, hs]
  exact ⟨w, rfl, by rw [hen, hkd], fun z => absurd (hkd.symm.trans z) (by decide), fun z => absurd (hkd.symm.trans z) (by decide)⟩
theorem nt_main {g : Nat → Int32} {a : Nat → Nat → Int32} {fr n : Nat} (hT0 : TxOK a fr n) {q : Nat} {tk p : Int32} {w : Int64} {op bd fl : Int32} (hq : q ≤ n) : P0 1 0 0 mX11_nextToken (39, [some (.ref 0), none, none], [], hT g a (nI fr) (nI n) (nI q) tk p w op bd fl) (QnT g a fr n q op bd fl) := by
  obtain ⟨hT1, hT2, hT3⟩ := id hT0
  refine P0.b GX11_nextToken 7 (ob := []) (cf' := (52, [some (.ref 0), none, none], [.int (nI q), .ref 0], hT g a (nI fr) (nI n) (nI q) tk (nI q) w op bd fl)) rfl trivial ?_
  refine P0.cd (d0 := 0) (as := [.ref 0, .int (nI q)]) (rest := []) (r1 := some (.int (Bt (a 1) fr n q))) (h1 := hT g a (nI fr) (nI n) (nI q) tk (nI q) w op bd fl) (st' := [.int (Bt (a 1) fr n q)]) GX11_byteAt kX11_nextToken_52 rfl ⟨_, _, rfl, rfl, .inl ⟨_, _, _, _, rfl, rfl⟩⟩ (Nat.le_of_ble_eq_true rfl) (Nat.le_of_ble_eq_true rfl) (e_byteT hT0 q (by omega)) (Nat.le_of_ble_eq_true rfl) rfl (Nat.le_of_ble_eq_true rfl) rfl ?_
  refine P0.b GX11_nextToken 6 (ob := []) (cf' := (if 0 ≤ Bt (a 1) fr n q then 81 else 65, [some (.ref 0), some (.int (Bt (a 1) fr n q)), none], [], hT g a (nI fr) (nI n) (nI q) 4 (nI q) w op bd fl)) rfl trivial ?_
  refine P0.if (fun h1 => ?_) (fun h1 => ?_)
  · refine P0.b GX11_nextToken 4 (ob := []) (cf' := (89, [some (.ref 0), some (.int (Bt (a 1) fr n q)), none], [.long 122, .long 97, .long ((Bt (a 1) fr n q).toInt64)], hT g a (nI fr) (nI n) (nI q) 4 (nI q) w op bd fl)) rfl trivial ?_
    refine P0.cr (io := []) (as := [.long ((Bt (a 1) fr n q).toInt64), .long ((97 : Int32).toInt64), .long ((122 : Int32).toInt64)]) (rest := []) (hc := []) (hc1 := []) (r1 := some (.int (if 97 ≤ Bt (a 1) fr n q ∧ Bt (a 1) fr n q ≤ 122 then 1 else 0))) (st' := [.int (if 97 ≤ Bt (a 1) fr n q ∧ Bt (a 1) fr n q ≤ 122 then 1 else 0)]) (h' := hT g a (nI fr) (nI n) (nI q) 4 (nI q) w op bd fl) (d0 := 0) GX11_in kX11_nextToken_89 rfl rfl (Nat.le_of_ble_eq_true rfl) (Nat.le_of_ble_eq_true rfl) rfl trivial (e_in32 (Bt (a 1) fr n q) 97 122) (Nat.le_of_ble_eq_true rfl) rfl (Nat.le_of_ble_eq_true rfl) (Nat.le_of_ble_eq_true rfl) rfl rfl ?_
    refine P0.b GX11_nextToken 1 (ob := []) (cf' := (if (if 97 ≤ Bt (a 1) fr n q ∧ Bt (a 1) fr n q ≤ 122 then 1 else 0) = 0 then 134 else 95, [some (.ref 0), some (.int (Bt (a 1) fr n q)), none], [], hT g a (nI fr) (nI n) (nI q) 4 (nI q) w op bd fl)) rfl trivial ?_
    refine P0.ifB (fun h2 => ?_) (fun h2 => ?_)
    · refine P0.b GX11_nextToken 4 (ob := []) (cf' := (142, [some (.ref 0), some (.int (Bt (a 1) fr n q)), none], [.long 57, .long 48, .long ((Bt (a 1) fr n q).toInt64)], hT g a (nI fr) (nI n) (nI q) 4 (nI q) w op bd fl)) rfl trivial ?_
      refine P0.cr (io := []) (as := [.long ((Bt (a 1) fr n q).toInt64), .long ((48 : Int32).toInt64), .long ((57 : Int32).toInt64)]) (rest := []) (hc := []) (hc1 := []) (r1 := some (.int (if 48 ≤ Bt (a 1) fr n q ∧ Bt (a 1) fr n q ≤ 57 then 1 else 0))) (st' := [.int (if 48 ≤ Bt (a 1) fr n q ∧ Bt (a 1) fr n q ≤ 57 then 1 else 0)]) (h' := hT g a (nI fr) (nI n) (nI q) 4 (nI q) w op bd fl) (d0 := 0) GX11_in kX11_nextToken_142 rfl rfl (Nat.le_of_ble_eq_true rfl) (Nat.le_of_ble_eq_true rfl) rfl trivial (e_in32 (Bt (a 1) fr n q) 48 57) (Nat.le_of_ble_eq_true rfl) rfl (Nat.le_of_ble_eq_true rfl) (Nat.le_of_ble_eq_true rfl) rfl rfl ?_
      refine P0.b GX11_nextToken 1 (ob := []) (cf' := (if (if 48 ≤ Bt (a 1) fr n q ∧ Bt (a 1) fr n q ≤ 57 then 1 else 0) = 0 then 252 else 148, [some (.ref 0), some (.int (Bt (a 1) fr n q)), none], [], hT g a (nI fr) (nI n) (nI q) 4 (nI q) w op bd fl)) rfl trivial ?_
      refine P0.ifB (fun h3 => ?_) (fun h3 => ?_)
      · refine P0.b GX11_nextToken 3 (ob := []) (cf' := (if Bt (a 1) fr n q = 40 then 300 else 258, [some (.ref 0), some (.int (Bt (a 1) fr n q)), none], [], hT g a (nI fr) (nI n) (nI q) 4 (nI q) w op bd fl)) rfl trivial ?_
        refine P0.if (fun h4 => ?_) (fun h4 => ?_)
        · refine P0.b GX11_nextToken 13 (ob := []) (cf' := (321, [some (.ref 0), some (.int (Bt (a 1) fr n q)), none], [], hT g a (nI fr) (nI n) ((nI q) + 1) 3 (nI q) ((Bt (a 1) fr n q).toInt64) op bd fl)) rfl trivial ?_
          exact P0.rv (by decide +kernel) rfl (nt_sign hT0 hq (Int32.not_lt.mpr h1) (by simp only [isLt]; simpa using h2) (by simp only [isDg]; simpa using h3) (by rw [h4]; decide))
        · refine P0.b GX11_nextToken 3 (ob := []) (cf' := (if Bt (a 1) fr n q = 41 then 300 else 264, [some (.ref 0), some (.int (Bt (a 1) fr n q)), none], [], hT g a (nI fr) (nI n) (nI q) 4 (nI q) w op bd fl)) rfl trivial ?_
          refine P0.if (fun h5 => ?_) (fun h5 => ?_)
          · refine P0.b GX11_nextToken 13 (ob := []) (cf' := (321, [some (.ref 0), some (.int (Bt (a 1) fr n q)), none], [], hT g a (nI fr) (nI n) ((nI q) + 1) 3 (nI q) ((Bt (a 1) fr n q).toInt64) op bd fl)) rfl trivial ?_
            exact P0.rv (by decide +kernel) rfl (nt_sign hT0 hq (Int32.not_lt.mpr h1) (by simp only [isLt]; simpa using h2) (by simp only [isDg]; simpa using h3) (by rw [h5]; decide))
          · refine P0.b GX11_nextToken 3 (ob := []) (cf' := (if Bt (a 1) fr n q = 59 then 300 else 270, [some (.ref 0), some (.int (Bt (a 1) fr n q)), none], [], hT g a (nI fr) (nI n) (nI q) 4 (nI q) w op bd fl)) rfl trivial ?_
            refine P0.if (fun h6 => ?_) (fun h6 => ?_)
            · refine P0.b GX11_nextToken 13 (ob := []) (cf' := (321, [some (.ref 0), some (.int (Bt (a 1) fr n q)), none], [], hT g a (nI fr) (nI n) ((nI q) + 1) 3 (nI q) ((Bt (a 1) fr n q).toInt64) op bd fl)) rfl trivial ?_
              exact P0.rv (by decide +kernel) rfl (nt_sign hT0 hq (Int32.not_lt.mpr h1) (by simp only [isLt]; simpa using h2) (by simp only [isDg]; simpa using h3) (by rw [h6]; decide))
            · refine P0.b GX11_nextToken 3 (ob := []) (cf' := (if Bt (a 1) fr n q = 43 then 300 else 276, [some (.ref 0), some (.int (Bt (a 1) fr n q)), none], [], hT g a (nI fr) (nI n) (nI q) 4 (nI q) w op bd fl)) rfl trivial ?_
              refine P0.if (fun h7 => ?_) (fun h7 => ?_)
              · refine P0.b GX11_nextToken 13 (ob := []) (cf' := (321, [some (.ref 0), some (.int (Bt (a 1) fr n q)), none], [], hT g a (nI fr) (nI n) ((nI q) + 1) 3 (nI q) ((Bt (a 1) fr n q).toInt64) op bd fl)) rfl trivial ?_
                exact P0.rv (by decide +kernel) rfl (nt_sign hT0 hq (Int32.not_lt.mpr h1) (by simp only [isLt]; simpa using h2) (by simp only [isDg]; simpa using h3) (by rw [h7]; decide))
              · refine P0.b GX11_nextToken 3 (ob := []) (cf' := (if Bt (a 1) fr n q = 45 then 300 else 282, [some (.ref 0), some (.int (Bt (a 1) fr n q)), none], [], hT g a (nI fr) (nI n) (nI q) 4 (nI q) w op bd fl)) rfl trivial ?_
                refine P0.if (fun h8 => ?_) (fun h8 => ?_)
                · refine P0.b GX11_nextToken 13 (ob := []) (cf' := (321, [some (.ref 0), some (.int (Bt (a 1) fr n q)), none], [], hT g a (nI fr) (nI n) ((nI q) + 1) 3 (nI q) ((Bt (a 1) fr n q).toInt64) op bd fl)) rfl trivial ?_
                  exact P0.rv (by decide +kernel) rfl (nt_sign hT0 hq (Int32.not_lt.mpr h1) (by simp only [isLt]; simpa using h2) (by simp only [isDg]; simpa using h3) (by rw [h8]; decide))
                · refine P0.b GX11_nextToken 3 (ob := []) (cf' := (if Bt (a 1) fr n q = 42 then 300 else 288, [some (.ref 0), some (.int (Bt (a 1) fr n q)), none], [], hT g a (nI fr) (nI n) (nI q) 4 (nI q) w op bd fl)) rfl trivial ?_
                  refine P0.if (fun h9 => ?_) (fun h9 => ?_)
                  · refine P0.b GX11_nextToken 13 (ob := []) (cf' := (321, [some (.ref 0), some (.int (Bt (a 1) fr n q)), none], [], hT g a (nI fr) (nI n) ((nI q) + 1) 3 (nI q) ((Bt (a 1) fr n q).toInt64) op bd fl)) rfl trivial ?_
                    exact P0.rv (by decide +kernel) rfl (nt_sign hT0 hq (Int32.not_lt.mpr h1) (by simp only [isLt]; simpa using h2) (by simp only [isDg]; simpa using h3) (by rw [h9]; decide))
                  · refine P0.b GX11_nextToken 3 (ob := []) (cf' := (if Bt (a 1) fr n q = 60 then 300 else 294, [some (.ref 0), some (.int (Bt (a 1) fr n q)), none], [], hT g a (nI fr) (nI n) (nI q) 4 (nI q) w op bd fl)) rfl trivial ?_
                    refine P0.if (fun h10 => ?_) (fun h10 => ?_)
                    · refine P0.b GX11_nextToken 13 (ob := []) (cf' := (321, [some (.ref 0), some (.int (Bt (a 1) fr n q)), none], [], hT g a (nI fr) (nI n) ((nI q) + 1) 3 (nI q) ((Bt (a 1) fr n q).toInt64) op bd fl)) rfl trivial ?_
                      exact P0.rv (by decide +kernel) rfl (nt_sign hT0 hq (Int32.not_lt.mpr h1) (by simp only [isLt]; simpa using h2) (by simp only [isDg]; simpa using h3) (by rw [h10]; decide))
                    · refine P0.b GX11_nextToken 3 (ob := []) (cf' := (if Bt (a 1) fr n q = 61 then 300 else 321, [some (.ref 0), some (.int (Bt (a 1) fr n q)), none], [], hT g a (nI fr) (nI n) (nI q) 4 (nI q) w op bd fl)) rfl trivial ?_
                      refine P0.if (fun h11 => ?_) (fun h11 => ?_)
                      · refine P0.b GX11_nextToken 13 (ob := []) (cf' := (321, [some (.ref 0), some (.int (Bt (a 1) fr n q)), none], [], hT g a (nI fr) (nI n) ((nI q) + 1) 3 (nI q) ((Bt (a 1) fr n q).toInt64) op bd fl)) rfl trivial ?_
                        exact P0.rv (by decide +kernel) rfl (nt_sign hT0 hq (Int32.not_lt.mpr h1) (by simp only [isLt]; simpa using h2) (by simp only [isDg]; simpa using h3) (by rw [h11]; decide))
                      · exact P0.rv (by decide +kernel) rfl (nt_none hT0 hq (Int32.not_lt.mpr h1) (by simp only [isLt]; simpa using h2) (by simp only [isDg]; simpa using h3) (by simp [sgC, h4, h5, h6, h7, h8, h9, h10, h11]))
      · refine P0.b GX11_nextToken 8 (ob := []) (cf' := (160, [some (.ref 0), some (.int (Bt (a 1) fr n q)), some (.int 0)], [], hT g a (nI fr) (nI n) (nI q) 2 (nI q) 0 op bd fl)) rfl trivial ?_
        have hb0 : ¬ Bt (a 1) fr n q < 0 := Int32.not_lt.mpr h1
        have hb1 : ¬ isLt (Bt (a 1) fr n q) = true := by simp only [isLt]; simpa using h2
        have hb2 : isDg (Bt (a 1) fr n q) = true := by simp only [isDg]; exact decide_eq_true h3
        exact nt_digits hT0 hq hb0 hb1 hb2 rfl 200 0 hq (by omega) rfl
    · refine P0.b GX11_nextToken 3 (ob := []) (cf' := (100, [some (.ref 0), some (.int (Bt (a 1) fr n q)), none], [], hT g a (nI fr) (nI n) (nI q) 1 (nI q) w op bd fl)) rfl trivial ?_
      have hb0 : ¬ Bt (a 1) fr n q < 0 := Int32.not_lt.mpr h1
      have hb1 : isLt (Bt (a 1) fr n q) = true := by simp only [isLt]; exact decide_eq_true h2
      exact nt_letters hT0 (E := eoL (Bt (a 1) fr n) q) (by simp [en, hb0, hb1]) (by simp [kd, hb0, hb1]) 200 q hq (by omega) rfl
  · refine P0.b GX11_nextToken 8 (ob := []) (cf' := (321, [some (.ref 0), some (.int (Bt (a 1) fr n q)), none], [], hT g a (nI fr) (nI n) (nI q) 0 (nI n) w op bd fl)) rfl trivial ?_
    exact P0.rv (by decide +kernel) rfl (nt_end hT0 hq (Int32.not_le.mp h1))
theorem nt_skip {g : Nat → Int32} {a : Nat → Nat → Int32} {fr n : Nat} (hT0 : TxOK a fr n) {tk p : Int32} {w : Int64} {op bd fl : Int32} : ∀ (k e : Nat), e ≤ n → n ≤ e + k → P0 1 0 0 mX11_nextToken (0, [some (.ref 0), none, none], [], hT g a (nI fr) (nI n) (nI e) tk p w op bd fl) (QnT g a fr n (adv isBl (Bt (a 1) fr n) k e) op bd fl)
  | 0, e, h1, h2 => by
    obtain ⟨hT1, hT2, hT3⟩ := id hT0
    refine P0.b GX11_nextToken 3 (ob := []) (cf' := (5, [some (.ref 0), none, none], [.int (nI e), .ref 0], hT g a (nI fr) (nI n) (nI e) tk p w op bd fl)) rfl trivial ?_
    refine P0.cd (d0 := 0) (as := [.ref 0, .int (nI e)]) (rest := []) (r1 := some (.int (Bt (a 1) fr n e))) (h1 := hT g a (nI fr) (nI n) (nI e) tk p w op bd fl) (st' := [.int (Bt (a 1) fr n e)]) GX11_byteAt kX11_nextToken_5 rfl ⟨_, _, rfl, rfl, .inl ⟨_, _, _, _, rfl, rfl⟩⟩ (Nat.le_of_ble_eq_true rfl) (Nat.le_of_ble_eq_true rfl) (e_byteT hT0 e (by omega)) (Nat.le_of_ble_eq_true rfl) rfl (Nat.le_of_ble_eq_true rfl) rfl ?_
    refine P0.b GX11_nextToken 2 (ob := []) (cf' := (if Bt (a 1) fr n e = 32 then 26 else 13, [some (.ref 0), none, none], [], hT g a (nI fr) (nI n) (nI e) tk p w op bd fl)) rfl trivial ?_
    refine P0.if (fun h11 => ?_) (fun h11 => ?_)
    · refine P0.b GX11_nextToken 7 (ob := []) (cf' := (0, [some (.ref 0), none, none], [], hT g a (nI fr) (nI n) ((nI e) + 1) tk p w op bd fl)) rfl trivial ?_
      have hbl : isBl (Bt (a 1) fr n e) = true := by simp only [isBl]; exact decide_eq_true (Or.inl h11)
      exact absurd hbl (by rw [bl_out e (by omega)]; decide)
    · refine P0.b GX11_nextToken 3 (ob := []) (cf' := (18, [some (.ref 0), none, none], [.int (nI e), .ref 0], hT g a (nI fr) (nI n) (nI e) tk p w op bd fl)) rfl trivial ?_
      refine P0.cd (d0 := 0) (as := [.ref 0, .int (nI e)]) (rest := []) (r1 := some (.int (Bt (a 1) fr n e))) (h1 := hT g a (nI fr) (nI n) (nI e) tk p w op bd fl) (st' := [.int (Bt (a 1) fr n e)]) GX11_byteAt kX11_nextToken_18 rfl ⟨_, _, rfl, rfl, .inl ⟨_, _, _, _, rfl, rfl⟩⟩ (Nat.le_of_ble_eq_true rfl) (Nat.le_of_ble_eq_true rfl) (e_byteT hT0 e (by omega)) (Nat.le_of_ble_eq_true rfl) rfl (Nat.le_of_ble_eq_true rfl) rfl ?_
      refine P0.b GX11_nextToken 2 (ob := []) (cf' := (if Bt (a 1) fr n e = 10 then 26 else 39, [some (.ref 0), none, none], [], hT g a (nI fr) (nI n) (nI e) tk p w op bd fl)) rfl trivial ?_
      refine P0.if (fun h12 => ?_) (fun h12 => ?_)
      · refine P0.b GX11_nextToken 7 (ob := []) (cf' := (0, [some (.ref 0), none, none], [], hT g a (nI fr) (nI n) ((nI e) + 1) tk p w op bd fl)) rfl trivial ?_
        have hbl : isBl (Bt (a 1) fr n e) = true := by simp only [isBl]; exact decide_eq_true (Or.inr h12)
        exact absurd hbl (by rw [bl_out e (by omega)]; decide)
      · rw [adv_self (show isBl (Bt (a 1) fr n e) = false from by simp only [isBl]; exact decide_eq_false (fun z => z.elim h11 h12))]
        exact nt_main hT0 h1
  | k + 1, e, h1, h2 => by
    obtain ⟨hT1, hT2, hT3⟩ := id hT0
    refine P0.b GX11_nextToken 3 (ob := []) (cf' := (5, [some (.ref 0), none, none], [.int (nI e), .ref 0], hT g a (nI fr) (nI n) (nI e) tk p w op bd fl)) rfl trivial ?_
    refine P0.cd (d0 := 0) (as := [.ref 0, .int (nI e)]) (rest := []) (r1 := some (.int (Bt (a 1) fr n e))) (h1 := hT g a (nI fr) (nI n) (nI e) tk p w op bd fl) (st' := [.int (Bt (a 1) fr n e)]) GX11_byteAt kX11_nextToken_5 rfl ⟨_, _, rfl, rfl, .inl ⟨_, _, _, _, rfl, rfl⟩⟩ (Nat.le_of_ble_eq_true rfl) (Nat.le_of_ble_eq_true rfl) (e_byteT hT0 e (by omega)) (Nat.le_of_ble_eq_true rfl) rfl (Nat.le_of_ble_eq_true rfl) rfl ?_
    refine P0.b GX11_nextToken 2 (ob := []) (cf' := (if Bt (a 1) fr n e = 32 then 26 else 13, [some (.ref 0), none, none], [], hT g a (nI fr) (nI n) (nI e) tk p w op bd fl)) rfl trivial ?_
    refine P0.if (fun h13 => ?_) (fun h13 => ?_)
    · refine P0.b GX11_nextToken 7 (ob := []) (cf' := (0, [some (.ref 0), none, none], [], hT g a (nI fr) (nI n) ((nI e) + 1) tk p w op bd fl)) rfl trivial ?_
      have hbl : isBl (Bt (a 1) fr n e) = true := by simp only [isBl]; exact decide_eq_true (Or.inl h13)
      have hlt : e < n := by
        rcases Nat.lt_or_ge e n with z | z
        · exact z
        · exact absurd hbl (by rw [bl_out e z]; decide)
      rw [nI_1, adv_step hbl]
      exact nt_skip hT0 k (e + 1) hlt (by omega)
    · refine P0.b GX11_nextToken 3 (ob := []) (cf' := (18, [some (.ref 0), none, none], [.int (nI e), .ref 0], hT g a (nI fr) (nI n) (nI e) tk p w op bd fl)) rfl trivial ?_
      refine P0.cd (d0 := 0) (as := [.ref 0, .int (nI e)]) (rest := []) (r1 := some (.int (Bt (a 1) fr n e))) (h1 := hT g a (nI fr) (nI n) (nI e) tk p w op bd fl) (st' := [.int (Bt (a 1) fr n e)]) GX11_byteAt kX11_nextToken_18 rfl ⟨_, _, rfl, rfl, .inl ⟨_, _, _, _, rfl, rfl⟩⟩ (Nat.le_of_ble_eq_true rfl) (Nat.le_of_ble_eq_true rfl) (e_byteT hT0 e (by omega)) (Nat.le_of_ble_eq_true rfl) rfl (Nat.le_of_ble_eq_true rfl) rfl ?_
      refine P0.b GX11_nextToken 2 (ob := []) (cf' := (if Bt (a 1) fr n e = 10 then 26 else 39, [some (.ref 0), none, none], [], hT g a (nI fr) (nI n) (nI e) tk p w op bd fl)) rfl trivial ?_
      refine P0.if (fun h14 => ?_) (fun h14 => ?_)
      · refine P0.b GX11_nextToken 7 (ob := []) (cf' := (0, [some (.ref 0), none, none], [], hT g a (nI fr) (nI n) ((nI e) + 1) tk p w op bd fl)) rfl trivial ?_
        have hbl : isBl (Bt (a 1) fr n e) = true := by simp only [isBl]; exact decide_eq_true (Or.inr h14)
        have hlt : e < n := by
          rcases Nat.lt_or_ge e n with z | z
          · exact z
          · exact absurd hbl (by rw [bl_out e z]; decide)
        rw [nI_1, adv_step hbl]
        exact nt_skip hT0 k (e + 1) hlt (by omega)
      · rw [adv_self (show isBl (Bt (a 1) fr n e) = false from by simp only [isBl]; exact decide_eq_false (fun z => z.elim h13 h14))]
        exact nt_main hT0 h1
theorem e_X11_nextToken {g : Nat → Int32} {a : Nat → Nat → Int32} {fr n : Nat} (hT0 : TxOK a fr n) (e : Nat) (he : e ≤ n) (tk p : Int32) (w : Int64) (op bd fl : Int32) : P0 1 0 0 mX11_nextToken (0, ent 3 [.ref 0], [], hT g a (nI fr) (nI n) (nI e) tk p w op bd fl) (QnT g a fr n (skp (Bt (a 1) fr n) e) op bd fl) := nt_skip hT0 200 e he (by have := hT0.2.1; omega)
