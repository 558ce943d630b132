/-! ===== what ties the two worlds ===== -/
def TS (g G : Nat → Int32) (m n t tc : Nat) : Prop := (g 1 = nI m ∧ G 11 = nI m ∧ m ≤ 6) ∧ (g 2 = nI tc ∧ G 3 = nI tc ∧ tc ≤ 6) ∧ (g 4 = nI t ∧ G 4 = nI t ∧ t < tc) ∧ (g 3 = nI n ∧ G 6 = nI n ∧ n ≤ 160) ∧ g 0 = G 7
def TT (Vs : Nat → (Nat → Int32) → Int32 → Int32) (TX : PH) (A : Nat → Nat → Int32) (tc : Nat) : Prop := TX.length = 3 * tc ∧ (∀ i, i < tc → ∃ cd en L, TxI TX i cd en L ∧ TXok cd en L (Vs i)) ∧ ∀ i, i < tc → Std1 A i ∧ TV A i (Vs i)
def TP (a A : Nat → Nat → Int32) (n : Nat) : Prop := ∀ j, j < n → a 5 j = A 3 j ∧ 0 ≤ A 3 j ∧ A 3 j ≤ 255
def TL (f F : Nat → Int32) : Prop := ∀ s, s < 6 → ∃ d, d < 4 ∧ f s = nI d ∧ F s = nI d
def TI (g G : Nat → Int32) (a A : Nat → Nat → Int32) (m tc : Nat) : Prop := (g 5 = 0 ∧ G 34 = -1) ∨ (¬ g 5 = 0 ∧ ∃ kc i, kc ≤ m ∧ i < tc ∧ g 8 = nI kc ∧ G 34 = nI kc ∧ g 6 = G 35 ∧ g 7 = nI i ∧ G 36 = nI i ∧ TL (a 20) (A 12) ∧ ∀ x, x < kc → bcOK (a 22 x) ∧ (a 23 x = 0 ∨ a 23 x = 1) ∧ A 13 (3 * x) = a 21 x ∧ A 13 (3 * x + 1) = a 22 x ∧ A 13 (3 * x + 2) = a 23 x)
def THj (u v A : Nat → Nat → Int32) (j : Nat) : Prop := (A 14 j = 0 ∧ u j 1 = -1) ∨ (¬ A 14 j = 0 ∧ ¬ u j 1 = -1 ∧ ∃ k, k ≤ 40 ∧ (0 ≤ A 15 j ∧ A 15 j ≤ 2) ∧ u j 1 = A 15 j ∧ u j 2 = nI k ∧ A 16 j = nI k ∧ ∀ i, i < k → v j i = A 17 (40 * j + i))
def TH (u v A : Nat → Nat → Int32) : Prop := ∀ j, j < 4 → THj u v A j
def TIE (g : Nat → Int32) (a q u v c y : Nat → Nat → Int32) (t tc : Nat) (TX : PH) (G : Nat → Int32) (A : Nat → Nat → Int32) (m n : Nat) (Vs : Nat → (Nat → Int32) → Int32 → Int32) : Prop := TS g G m n t tc ∧ TT Vs TX A tc ∧ TP a A n ∧ TL (a 1) (A 4) ∧ TW q A m ∧ CK Vs tc c y ∧ TI g G a A m tc ∧ TH u v A
def INV (hx hm : PH) : Prop := ∃ g a q u v z b c y t tc TX G Z W A B m n Vs, TIE g a q u v c y t tc TX G A m n Vs ∧ hx = hX g a q u v z b c y t tc TX ∧ hm = hC G Z W A B
theorem INV.of {g : Nat → Int32} {a q u v c y : Nat → Nat → Int32} {t tc : Nat} {TX : PH} {G : Nat → Int32} {A : Nat → Nat → Int32} {m n : Nat} {Vs : Nat → (Nat → Int32) → Int32 → Int32} {z : Nat → Int32} {b : Nat → Nat → Int32} {Z : Nat → Int32} {W : Int64} {B : Nat → Nat → Int32} (h : TIE g a q u v c y t tc TX G A m n Vs) : INV (hX g a q u v z b c y t tc TX) (hC G Z W A B) := ⟨g, a, q, u, v, z, b, c, y, t, tc, TX, G, Z, W, A, B, m, n, Vs, h, rfl, rfl⟩
theorem INV.len {hx hm : PH} (h : INV hx hm) : ∃ tc, tc ≤ 6 ∧ hx.length = 46 + 3 * tc ∧ hm.length = 18 := by
  obtain ⟨g, a, q, u, v, z, b, c, y, t, tc, TX, G, Z, W, A, B, m, n, Vs, h, rfl, rfl⟩ := h
  exact ⟨tc, h.1.2.1.2.2, by rw [hX_len, h.2.1.1, Nat.add_comm], hC_len⟩
theorem TL.dl {f F : Nat → Int32} (h : TL f F) : ∃ dl : Nat → Nat, (∀ s, s < 6 → dl s < 4) ∧ (∀ s, s < 6 → f s = nI (dl s)) ∧ ∀ s, s < 6 → F s = nI (dl s) := by
  refine ⟨fun s => if h6 : s < 6 then (h s h6).choose else 0, fun s hs => ?_, fun s hs => ?_, fun s hs => ?_⟩
  · show (if h6 : s < 6 then (h s h6).choose else 0) < 4; rw [dif_pos hs]; exact (h s hs).choose_spec.1
  · show f s = nI (if h6 : s < 6 then (h s h6).choose else 0); rw [dif_pos hs]; exact (h s hs).choose_spec.2.1
  · show F s = nI (if h6 : s < 6 then (h s h6).choose else 0); rw [dif_pos hs]; exact (h s hs).choose_spec.2.2
theorem TL.eq {f F : Nat → Int32} (h : TL f F) : ∀ s, s < 6 → F s = f s := fun s hs => by
  obtain ⟨d, _, h1, h2⟩ := h s hs
  rw [h1, h2]
/-- the two answer alike, and stay tied -/
def JI (Mx : MI) (nx : Nat) (Mm : MI) (nm : Nat) (as : List Value) (hx hm : PH) : Prop := ∃ Qx Qm : Option Value → PH → Prop, P0 64 3 165 Mx (0, ent nx (.ref 0 :: as), [], hx) Qx ∧ P0 64 0 0 Mm (0, ent nm (.ref 0 :: as), [], hm) Qm ∧ (∀ r h1, Qx r h1 → h1.length ≤ 64 ∧ ∃ w : Int32, r = some (.int w)) ∧ (∀ r h2, Qm r h2 → h2.length = 18) ∧ ∀ r1 h1 r2 h2, Qx r1 h1 → Qm r2 h2 → (∃ w : Int32, r1 = some (.int w) ∧ r2 = some (.int w)) ∧ INV h1 h2
def JL (Mx : MI) (nx : Nat) (Mm : MI) (nm : Nat) (as : List Value) (hx hm : PH) : Prop := ∃ Qx Qm : Option Value → PH → Prop, P0 64 3 165 Mx (0, ent nx (.ref 0 :: as), [], hx) Qx ∧ P0 64 0 0 Mm (0, ent nm (.ref 0 :: as), [], hm) Qm ∧ (∀ r h1, Qx r h1 → h1.length ≤ 64 ∧ ∃ w : Int64, r = some (.long w)) ∧ (∀ r h2, Qm r h2 → h2.length = 18) ∧ ∀ r1 h1 r2 h2, Qx r1 h1 → Qm r2 h2 → (∃ w : Int64, r1 = some (.long w) ∧ r2 = some (.long w)) ∧ INV h1 h2
section JJ
variable {Mx Mm : MI} {nx nm d1 d2 c1 s1 : Nat} {as : List Value} {hx hm : PH} {Qx Qm : Option Value → PH → Prop} {x1 x2 : Int32}
theorem bb4 {d1 c1 s1 d2 : Nat} (hb : (Nat.ble d1 64 && Nat.ble c1 3 && Nat.ble s1 165 && Nat.ble d2 64) = true) : d1 ≤ 64 ∧ c1 ≤ 3 ∧ s1 ≤ 165 ∧ d2 ≤ 64 := by
  rw [Bool.and_eq_true, Bool.and_eq_true, Bool.and_eq_true] at hb
  exact ⟨Nat.le_of_ble_eq_true hb.1.1.1, Nat.le_of_ble_eq_true hb.1.1.2, Nat.le_of_ble_eq_true hb.1.2, Nat.le_of_ble_eq_true hb.2⟩
theorem JI.mk (h1 : P0 d1 c1 s1 Mx (0, ent nx (.ref 0 :: as), [], hx) Qx) (h2 : P0 d2 0 0 Mm (0, ent nm (.ref 0 :: as), [], hm) Qm) (hb : (Nat.ble d1 64 && Nat.ble c1 3 && Nat.ble s1 165 && Nat.ble d2 64) = true) (hl1 : ∀ r h1, Qx r h1 → h1.length ≤ 64 ∧ ∃ w : Int32, r = some (.int w)) (hl2 : ∀ r h2, Qm r h2 → h2.length = 18) (hQ : ∀ r1 h1 r2 h2, Qx r1 h1 → Qm r2 h2 → (∃ w : Int32, r1 = some (.int w) ∧ r2 = some (.int w)) ∧ INV h1 h2) : JI Mx nx Mm nm as hx hm := by
  obtain ⟨b1, b2, b3, b4⟩ := bb4 hb
  exact ⟨Qx, Qm, P0.mono h1 b1 b2 b3 (fun _ _ q => q), P0.mono h2 b4 (Nat.le_refl _) (Nat.le_refl _) (fun _ _ q => q), hl1, hl2, hQ⟩
theorem JL.mk (h1 : P0 d1 c1 s1 Mx (0, ent nx (.ref 0 :: as), [], hx) Qx) (h2 : P0 d2 0 0 Mm (0, ent nm (.ref 0 :: as), [], hm) Qm) (hb : (Nat.ble d1 64 && Nat.ble c1 3 && Nat.ble s1 165 && Nat.ble d2 64) = true) (hl1 : ∀ r h1, Qx r h1 → h1.length ≤ 64 ∧ ∃ w : Int64, r = some (.long w)) (hl2 : ∀ r h2, Qm r h2 → h2.length = 18) (hQ : ∀ r1 h1 r2 h2, Qx r1 h1 → Qm r2 h2 → (∃ w : Int64, r1 = some (.long w) ∧ r2 = some (.long w)) ∧ INV h1 h2) : JL Mx nx Mm nm as hx hm := by
  obtain ⟨b1, b2, b3, b4⟩ := bb4 hb
  exact ⟨Qx, Qm, P0.mono h1 b1 b2 b3 (fun _ _ q => q), P0.mono h2 b4 (Nat.le_refl _) (Nat.le_refl _) (fun _ _ q => q), hl1, hl2, hQ⟩
theorem JI.ff {H1 H2 : PH} (h1 : P0 d1 c1 s1 Mx (0, ent nx (.ref 0 :: as), [], hx) (fun r h' => r = some (.int x1) ∧ h' = H1)) (h2 : P0 d2 0 0 Mm (0, ent nm (.ref 0 :: as), [], hm) (fun r h' => r = some (.int x2) ∧ h' = H2)) (hb : (Nat.ble d1 64 && Nat.ble c1 3 && Nat.ble s1 165 && Nat.ble d2 64) = true) (hv : x1 = x2) (hI : INV H1 H2) : JI Mx nx Mm nm as hx hm :=
  JI.mk h1 h2 hb (fun _ _ ⟨e1, e⟩ => ⟨by obtain ⟨tc, h6, l1, l2⟩ := hI.len; rw [e, l1]; omega, _, e1⟩) (fun _ _ ⟨_, e⟩ => by obtain ⟨tc, h6, l1, l2⟩ := hI.len; rw [e, l2]) (by rintro _ _ _ _ ⟨rfl, rfl⟩ ⟨rfl, rfl⟩; exact ⟨⟨x1, rfl, by rw [hv]⟩, hI⟩)
end JJ
section JE
variable {g z : Nat → Int32} {a q u v b c y : Nat → Nat → Int32} {t tc : Nat} {TX : PH} {G Z : Nat → Int32} {W : Int64} {A B : Nat → Nat → Int32} {m n : Nat} {Vs : Nat → (Nat → Int32) → Int32 → Int32} {Mx Mm : MI} {nx nm d1 d2 d : Nat} {as : List Value} {x1 x2 : Int32} {r0 : Option Value} {cf : CF} {M : MI}
theorem P0.ex (hC : CK Vs tc c y) (h : P0 d 0 0 M cf (fun r h' => r = r0 ∧ h' = hX g a q u v z b c y t tc TX)) : P0 d 0 0 M cf (fun r h' => ∃ e : EV, CK Vs tc e.2.2.1 e.2.2.2 ∧ r = r0 ∧ h' = hX g a q u v e.1 e.2.1 e.2.2.1 e.2.2.2 t tc TX) :=
  P0.mono h (Nat.le_refl _) (Nat.le_refl _) (Nat.le_refl _) (fun _ _ ⟨h1, h2⟩ => ⟨(z, b, c, y), hC, h1, h2⟩)
theorem P0.wb (h : P0 d 0 0 M cf (fun r h' => ∃ z' w', r = r0 ∧ h' = hC G z' w' A B)) : P0 d 0 0 M cf (fun r h' => ∃ z' w' b', r = r0 ∧ h' = hC G z' w' A b') :=
  P0.mono h (Nat.le_refl _) (Nat.le_refl _) (Nat.le_refl _) (fun _ _ ⟨z', w', h1, h2⟩ => ⟨z', w', B, h1, h2⟩)
theorem P0.b0 (h : P0 d 0 0 M cf (fun r h' => r = r0 ∧ h' = hC G Z W A B)) : P0 d 0 0 M cf (fun r h' => ∃ z' w' b', r = r0 ∧ h' = hC G z' w' A b') :=
  P0.mono h (Nat.le_refl _) (Nat.le_refl _) (Nat.le_refl _) (fun _ _ ⟨h1, h2⟩ => ⟨Z, W, B, h1, h2⟩)
theorem TIE.ck {c' y' : Nat → Nat → Int32} (h : TIE g a q u v c y t tc TX G A m n Vs) (hC : CK Vs tc c' y') : TIE g a q u v c' y' t tc TX G A m n Vs := ⟨h.1, h.2.1, h.2.2.1, h.2.2.2.1, h.2.2.2.2.1, hC, h.2.2.2.2.2.2⟩
theorem JI.ee (hI : TIE g a q u v c y t tc TX G A m n Vs) (h1 : P0 d1 0 0 Mx (0, ent nx (.ref 0 :: as), [], hX g a q u v z b c y t tc TX) (fun r h' => ∃ e : EV, CK Vs tc e.2.2.1 e.2.2.2 ∧ r = some (.int x1) ∧ h' = hX g a q u v e.1 e.2.1 e.2.2.1 e.2.2.2 t tc TX)) (h2 : P0 d2 0 0 Mm (0, ent nm (.ref 0 :: as), [], hC G Z W A B) (fun r h' => ∃ z' w' b', r = some (.int x2) ∧ h' = hC G z' w' A b')) (hb : (Nat.ble d1 64 && Nat.ble 0 3 && Nat.ble 0 165 && Nat.ble d2 64) = true) (hv : x1 = x2) : JI Mx nx Mm nm as (hX g a q u v z b c y t tc TX) (hC G Z W A B) :=
  JI.mk h1 h2 hb (fun _ _ ⟨_, _, e1, e⟩ => ⟨by have h8 := hI.2.1.1; have h9 := hI.1.2.1.2.2; rw [e, hX_len]; omega, _, e1⟩) (fun _ _ ⟨_, _, _, _, e⟩ => by rw [e]; rfl) (by rintro _ _ _ _ ⟨e, hC', rfl, rfl⟩ ⟨z', w', b', rfl, rfl⟩; exact ⟨⟨x1, rfl, by rw [hv]⟩, INV.of (hI.ck hC')⟩)
theorem TIE.O (h : TIE g a q u v c y t tc TX G A m n Vs) : TX.length ≤ 18 := by
  have := h.2.1.1; have := h.1.2.1.2.2; omega
theorem TW.K (hW : TW q A m) : ∀ x, x < m → ∃ k, k < 6 ∧ q x 1 = nI k := fun x hx => (hW x hx).1
theorem TW.S (hW : TW q A m) : ∀ x, x < m → bcOK (q x 3) := fun x hx => (hW x hx).2.1
end JE
theorem nI_ltc {a b : Nat} (ha : a < 2 ^ 31) (hb : b < 2 ^ 31) : nI a < nI b ↔ a < b := by
  rw [← Int32.not_le, nI_leI hb ha]; omega
theorem nI_lem {a m : Nat} (ha : a < 2 ^ 31) (hm : m < 2 ^ 31) : nI a ≤ nI m - 1 ↔ a < m := by
  cases m with
  | zero =>
    constructor
    · intro h
      have h0 : (0 : Int32) ≤ nI a := nI_pos' ha
      exact absurd (Int32.le_trans h0 h) (by decide)
    · intro h; exact absurd h (Nat.not_lt_zero a)
  | succ k =>
    rw [nI_pred, nI_leI ha (by omega)]; omega
/-- a number from 0 on, below m, or none -/
theorem wit_dich {g1 G1 : Int32} {m : Nat} (hm : g1 = nI m) (hM : G1 = nI m) (hm6 : m ≤ 160) (x : Int32) : (¬ (0 ≤ x ∧ x < g1) ∧ ¬ (0 ≤ x ∧ x ≤ G1 - 1)) ∨ ((0 ≤ x ∧ x < g1) ∧ (0 ≤ x ∧ x ≤ G1 - 1) ∧ ∃ i, i < m ∧ x = nI i) := by
  by_cases h0 : 0 ≤ x
  · obtain ⟨j, hj, rfl⟩ := nI_of (Int32.not_lt.mpr h0)
    subst hm hM
    have e1 := nI_ltc hj (show m < 2 ^ 31 by omega)
    have e2 := nI_lem hj (show m < 2 ^ 31 by omega)
    by_cases hjm : j < m
    · exact .inr ⟨⟨h0, e1.mpr hjm⟩, ⟨h0, e2.mpr hjm⟩, j, hjm, rfl⟩
    · exact .inl ⟨fun z => hjm (e1.mp z.2), fun z => hjm (e2.mp z.2)⟩
  · exact .inl ⟨fun z => h0 z.1, fun z => h0 z.1⟩
theorem small_nI {x : Int32} {N : Nat} (hN : N < 2 ^ 31) (h : 0 ≤ x ∧ x ≤ nI N) : ∃ j, j ≤ N ∧ x = nI j := by
  obtain ⟨j, hj, rfl⟩ := nI_of (Int32.not_lt.mpr h.1)
  exact ⟨j, (nI_leI hj hN).mp h.2, rfl⟩
theorem upto1 {x : Int32} (h : 0 ≤ x ∧ x ≤ 1) : x = 0 ∨ x = 1 := by
  obtain ⟨j, hj, rfl⟩ := small_nI (N := 1) (by decide) h
  match j, hj with
  | 0, _ => exact .inl rfl
  | 1, _ => exact .inr rfl
  | j + 2, h => omega
theorem upto4 {x : Int32} (h : 0 ≤ x ∧ x ≤ 4) : x = 0 ∨ x = 1 ∨ x = 2 ∨ x = 3 ∨ x = 4 := by
  obtain ⟨j, hj, rfl⟩ := small_nI (N := 4) (by decide) h
  match j, hj with
  | 0, _ => exact .inl rfl
  | 1, _ => exact .inr (.inl rfl)
  | 2, _ => exact .inr (.inr (.inl rfl))
  | 3, _ => exact .inr (.inr (.inr (.inl rfl)))
  | 4, _ => exact .inr (.inr (.inr (.inr rfl)))
  | j + 5, h => omega
theorem upto7 {x : Int32} (h : 0 ≤ x ∧ x ≤ 7) : x = 0 ∨ x = 1 ∨ x = 2 ∨ x = 3 ∨ x = 4 ∨ x = 5 ∨ x = 6 ∨ x = 7 := by
  obtain ⟨j, hj, rfl⟩ := small_nI (N := 7) (by decide) h
  match j, hj with
  | 0, _ => exact .inl rfl
  | 1, _ => exact .inr (.inl rfl)
  | 2, _ => exact .inr (.inr (.inl rfl))
  | 3, _ => exact .inr (.inr (.inr (.inl rfl)))
  | 4, _ => exact .inr (.inr (.inr (.inr (.inl rfl))))
  | 5, _ => exact .inr (.inr (.inr (.inr (.inr (.inl rfl)))))
  | 6, _ => exact .inr (.inr (.inr (.inr (.inr (.inr (.inl rfl))))))
  | 7, _ => exact .inr (.inr (.inr (.inr (.inr (.inr (.inr rfl))))))
  | j + 8, h => omega
theorem le_more {x : Int32} {a b : Int32} (h : a ≤ b) (q : 0 ≤ x ∧ x ≤ a) : 0 ≤ x ∧ x ≤ b := ⟨q.1, Int32.le_trans q.2 h⟩
theorem told_dich {x : Int32} (h0 : ¬ x = 0) (h1 : ¬ x = 1) : x = 2 ∨ x = 3 ∨ x = 4 ∨ x = 5 ∨ x = 6 ∨ x = 10 ∨ x = 11 ∨ x = 12 ∨ x = 13 ∨ x = 14 ∨ x = 15 ∨ (¬ (0 ≤ x ∧ x ≤ 6) ∧ ¬ (10 ≤ x ∧ x ≤ 15)) := by
  by_cases h6 : 0 ≤ x ∧ x ≤ 6
  · rcases upto7 (le_more (by decide) h6) with h | h | h | h | h | h | h | h
    · exact absurd h h0
    · exact absurd h h1
    · exact .inl h
    · exact .inr (.inl h)
    · exact .inr (.inr (.inl h))
    · exact .inr (.inr (.inr (.inl h)))
    · exact .inr (.inr (.inr (.inr (.inl h))))
    · rw [h] at h6; exact absurd h6.2 (by decide)
  · by_cases h15 : 10 ≤ x ∧ x ≤ 15
    · have h10 : ¬ x < 10 := Int32.not_lt.mpr h15.1
      obtain ⟨j, hj, rfl⟩ := small_nI (N := 15) (by decide) ⟨Int32.le_trans (by decide) h15.1, h15.2⟩
      have hj10 : 10 ≤ j := (nI_leI (a := 10) (by decide) (by omega)).mp h15.1
      match j, hj, hj10 with
      | 10, _, _ => exact .inr (.inr (.inr (.inr (.inr (.inl rfl)))))
      | 11, _, _ => exact .inr (.inr (.inr (.inr (.inr (.inr (.inl rfl))))))
      | 12, _, _ => exact .inr (.inr (.inr (.inr (.inr (.inr (.inr (.inl rfl)))))))
      | 13, _, _ => exact .inr (.inr (.inr (.inr (.inr (.inr (.inr (.inr (.inl rfl))))))))
      | 14, _, _ => exact .inr (.inr (.inr (.inr (.inr (.inr (.inr (.inr (.inr (.inl rfl)))))))))
      | 15, _, _ => exact .inr (.inr (.inr (.inr (.inr (.inr (.inr (.inr (.inr (.inr (.inl rfl))))))))))
      | j + 16, h, _ => omega
    · exact .inr (.inr (.inr (.inr (.inr (.inr (.inr (.inr (.inr (.inr (.inr ⟨h6, h15⟩))))))))))
