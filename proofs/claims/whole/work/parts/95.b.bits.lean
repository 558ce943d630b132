/-! ===== who agrees: the reference's bits of a life, the class's bits of a place ===== -/
theorem or_key : ∀ v, v < 64 → ∀ s, s < 6 → v ||| 2 ^ s < 64 ∧ nI v ||| (1 <<< (nI s &&& 31)) = nI (v ||| 2 ^ s) := by decide +kernel
theorem sh_zero : ∀ s, s < 6 → (0 : Int32) <<< (nI s &&& 31) = 0 := by decide +kernel
theorem nI_and (a b : Nat) : nI a &&& nI b = nI (a &&& b) := by
  apply Int32.toBitVec_inj.mp
  show BitVec.ofNat 32 a &&& BitVec.ofNat 32 b = BitVec.ofNat 32 (a &&& b)
  exact (BitVec.ofNat_and).symm
def bN (P : Nat → Bool) (m : Nat) : Nat := it (fun x v => if P x = true then v ||| 2 ^ x else v) m 0
theorem bN_s (P : Nat → Bool) (m : Nat) : bN P (m + 1) = if P m = true then bN P m ||| 2 ^ m else bN P m := rfl
theorem bN_bit (P : Nat → Bool) : ∀ m x, (bN P m).testBit x = (decide (x < m) && P x)
  | 0, x => by
    show (0 : Nat).testBit x = _
    rw [Nat.zero_testBit]; simp
  | m + 1, x => by
    rw [bN_s]
    by_cases hp : P m = true
    · rw [if_pos hp, Nat.testBit_or, bN_bit P m x, Nat.testBit_two_pow]
      by_cases hx : m = x
      · subst hx; simp [hp]
      · have : decide (x < m + 1) = decide (x < m) := by
          rw [decide_eq_decide]; omega
        rw [this]; simp [hx]
    · rw [if_neg hp, bN_bit P m x]
      by_cases hx : m = x
      · subst hx; simp [hp]
      · have : decide (x < m + 1) = decide (x < m) := by
          rw [decide_eq_decide]; omega
        rw [this]
theorem bN_lt (P : Nat → Bool) : ∀ m, m ≤ 6 → bN P m < 64
  | 0, _ => by show 0 < 64; decide
  | m + 1, h => by
    rw [bN_s]
    have ih := bN_lt P m (by omega)
    split
    · exact (or_key _ ih m (by omega)).1
    · exact ih
theorem bN_nI (P : Nat → Bool) {f : Nat → Int32 → Int32} (hf : ∀ x v, x < 6 → f x v = if P x = true then v ||| (1 <<< (nI x &&& 31)) else v) : ∀ m, m ≤ 6 → it f m 0 = nI (bN P m)
  | 0, _ => nI_0.symm
  | m + 1, h => by
    rw [it_succ, bN_nI P hf m (by omega), hf m _ (by omega), bN_s]
    split
    · exact (or_key _ (bN_lt P m (by omega)) m (by omega)).2
    · rfl
theorem bN_c {P Q : Nat → Bool} : ∀ m, (∀ x, x < m → P x = Q x) → bN P m = bN Q m
  | 0, _ => rfl
  | m + 1, h => by rw [bN_s, bN_s, bN_c m (fun x hx => h x (by omega)), h m (by omega)]
theorem and_sub {G w : Nat} : G &&& w = w ↔ ∀ x, w.testBit x = true → G.testBit x = true := by
  constructor
  · intro h x hx
    rw [← h, Nat.testBit_and, Bool.and_eq_true] at hx
    exact hx.1
  · intro h
    apply Nat.eq_of_testBit_eq
    intro x
    rw [Nat.testBit_and]
    cases hw : w.testBit x with
    | false => simp
    | true => simp [h x hw]
theorem nI_sub_iff {G w : Nat} (hG : G < 64) (hw : w < 64) : nI G &&& nI w = nI w ↔ ∀ x, w.testBit x = true → G.testBit x = true := by
  rw [nI_and, nI_eq (Nat.lt_of_le_of_lt Nat.and_le_left (by omega)) (by omega)]
  exact and_sub
/-- a loop that stays at 1 as long as all is the same -/
theorem it_all {P : Nat → Prop} [∀ s, Decidable (P s)] {f : Nat → Int32 → Int32} (hf : ∀ s v, f s v = if v = 0 then 0 else if P s then 1 else 0) (n : Nat) : (it f n 1 = 0 ↔ ¬ ∀ s, s < n → P s) ∧ (it f n 1 = 0 ∨ it f n 1 = 1) := by
  induction n with
  | zero => exact ⟨⟨fun h => absurd h (show ¬ ((1 : Int32) = 0) by decide), fun h => absurd (fun s hs => absurd hs (Nat.not_lt_zero s)) h⟩, .inr rfl⟩
  | succ n ih =>
    rw [it_succ, hf]
    by_cases h0 : it f n 1 = 0
    · rw [if_pos h0]
      exact ⟨⟨fun _ z => (ih.1.mp h0) (fun s hs => z s (by omega)), fun _ => rfl⟩, .inl rfl⟩
    · rw [if_neg h0]
      have hall : ∀ s, s < n → P s := Classical.byContradiction (fun z => h0 (ih.1.mpr z))
      by_cases hp : P n
      · rw [if_pos hp]
        refine ⟨⟨fun h => absurd h (show ¬ ((1 : Int32) = 0) by decide), fun h => absurd (fun s hs => ?_) h⟩, .inr rfl⟩
        by_cases e : s = n
        · subst e; exact hp
        · exact hall s (by omega)
      · rw [if_neg hp]
        exact ⟨⟨fun _ z => hp (z n (by omega)), fun _ => rfl⟩, .inl rfl⟩
/-- the life as a number -/
theorem lifeV_n {f : Nat → Int32} {dl : Nat → Nat} (h : ∀ s, s < 6 → f s = nI (dl s)) : lifeV f = nI (nmb dl) := by
  unfold lifeV nmb
  have st : ∀ s v, s < 6 → 4 * nI v + f (nI s).toNatClampNeg = nI (v * 4 + dl s) := fun s v hs => by
    rw [nI_clamp (by omega), h s hs, show (4 : Int32) * nI v = nI (4 * v) from pk_mul 4 v, nI_add, Nat.mul_comm]
  show 4 * (4 * (4 * (4 * (4 * (4 * (0 : Int32) + f (nI 0).toNatClampNeg) + f (nI 1).toNatClampNeg) + f (nI 2).toNatClampNeg) + f (nI 3).toNatClampNeg) + f (nI 4).toNatClampNeg) + f (nI 5).toNatClampNeg = _
  rw [show (0 : Int32) = nI 0 from nI_0.symm, st 0 0 (by decide), st 1 _ (by decide), st 2 _ (by decide), st 3 _ (by decide), st 4 _ (by decide), st 5 _ (by decide), Nat.zero_mul, Nat.zero_add]
def saB (A : Nat → Nat → Int32) (t : Nat) (age : Int32) (dl : Nat → Nat) (x L : Nat) : Bool := (List.range 6).all (fun s => decide (valX A t age x s (pN L s) (dN L s) = valX A t age x s (ldo dl s) (dl s)))
theorem saB_iff {A : Nat → Nat → Int32} {t : Nat} {age : Int32} {dl : Nat → Nat} {x L : Nat} : saB A t age dl x L = true ↔ ∀ s, s < 6 → valX A t age x s (pN L s) (dN L s) = valX A t age x s (ldo dl s) (dl s) := by
  unfold saB
  rw [List.all_eq_true]
  exact ⟨fun h s hs => of_decide_eq_true (h s (List.mem_range.mpr hs)), fun h s hs => decide_eq_true (h s (List.mem_range.mp hs))⟩
section GAT
variable {A : Nat → Nat → Int32} {t m : Nat} {age : Int32} {dl : Nat → Nat}
/-- the reference's bits of a life -/
theorem gat_bits (hm : m ≤ 6) (hdl : ∀ s, s < 6 → dl s < 4) (hlf : ∀ s, s < 6 → A 4 s = nI (dl s)) {L : Nat} (hL : L < 4096) : gat0 A t age m L = nI (bN (fun x => saB A t age dl x L) m) := by
  unfold gat0
  rw [gatV_at hL]
  have hT := tabV_P (a := A) (t := t) (age := age) hm z0
  have hb : ∀ x s K, x < m → s < 6 → K < 4096 → byV (tabV A t age m z0) (nI x) (nI s) (nI K) = valX A t age x s (pN K s) (dN K s) := fun x s K hx hs hK => by
    rw [byV_eq hm hT hx hs]
    unfold sayL valX
    rw [doV_n hK hs, lastV_n hK hs]
  have hn := nmb_lt hdl
  have hb2 : ∀ x s, x < m → s < 6 → byV (tabV A t age m z0) (nI x) (nI s) (lifeV (A 4)) = valX A t age x s (ldo dl s) (dl s) := fun x s hx hs => by
    rw [lifeV_n hlf, hb x s _ hx hs hn, nmb_at hdl s hs, nmb_p hdl hs]
  have step : ∀ k, k ≤ m → it (setF (tabV A t age m z0) (nI L) (lifeV (A 4))) k 0 = nI (bN (fun x => saB A t age dl x L) k) := by
    intro k
    induction k with
    | zero => intro _; exact nI_0.symm
    | succ k ih =>
      intro hk
      rw [it_succ, ih (by omega), bN_s]
      unfold setF
      have h6 := (it_all (P := fun s => byV (tabV A t age m z0) (nI k) (nI s) (nI L) = byV (tabV A t age m z0) (nI k) (nI s) (lifeV (A 4))) (f := sameF (tabV A t age m z0) k (nI L) (lifeV (A 4))) (fun s v => rfl) 6).1
      by_cases hall : ∀ s, s < 6 → valX A t age k s (pN L s) (dN L s) = valX A t age k s (ldo dl s) (dl s)
      · rw [if_neg (fun z => (h6.mp z) (fun s hs => by rw [hb k s L (by omega) hs hL, hb2 k s (by omega) hs]; exact hall s hs)), if_pos (saB_iff.mpr hall)]
        exact (or_key _ (bN_lt _ k (by omega)) k (by omega)).2
      · rw [if_pos (h6.mpr (fun z => hall (fun s hs => by have := z s hs; rw [hb k s L (by omega) hs hL, hb2 k s (by omega) hs] at this; exact this))), if_neg (fun z => hall (saB_iff.mp z)), sh_zero k (by omega), Int32.or_zero]
  exact step m (Nat.le_refl _)
end GAT
/-- the class's bits of a place -/
theorem mkA_at {dl : Nat → Nat} {sy al : Nat → Int32} {bit : Int32} {s l d : Nat} (hs : s < 6) (hl : l < 4) (hd : d < 4) : ∀ n, n ≤ 6 → it (mkA dl sy bit) n al ((s * 4 + l) * 4 + d) = if s < n ∧ sy ((s * 4 + l) * 4 + d) = sy ((s * 4 + ldo dl s) * 4 + dl s) then al ((s * 4 + l) * 4 + d) ||| bit else al ((s * 4 + l) * 4 + d)
  | 0, _ => (if_neg (fun z => absurd z.1 (Nat.not_lt_zero s))).symm
  | n + 1, hn => by
    rw [it_succ]
    have ih := mkA_at (dl := dl) (sy := sy) (al := al) (bit := bit) hs hl hd n (by omega)
    show mkW (it (mkA dl sy bit) n al) sy ((n * 4 + 0) * 4 + 0) (sy ((n * 4 + ldo dl n) * 4 + dl n)) bit 16 ((s * 4 + l) * 4 + d) = _
    unfold mkW
    rw [ih]
    by_cases e : s = n
    · subst e
      rw [if_neg (c := s < s ∧ _) (fun z => absurd z.1 (Nat.lt_irrefl s))]
      by_cases h2 : sy ((s * 4 + l) * 4 + d) = sy ((s * 4 + ldo dl s) * 4 + dl s)
      · rw [if_pos ⟨⟨by omega, by omega⟩, h2⟩, if_pos ⟨by omega, h2⟩]
      · rw [if_neg (fun z => h2 z.2), if_neg (fun z => h2 z.2)]
    · rw [if_neg (c := ((n * 4 + 0) * 4 + 0 ≤ (s * 4 + l) * 4 + d ∧ _) ∧ _) (fun z => e (by omega))]
      by_cases h2 : sy ((s * 4 + l) * 4 + d) = sy ((s * 4 + ldo dl s) * 4 + dl s)
      · by_cases h3 : s < n
        · rw [if_pos ⟨h3, h2⟩, if_pos ⟨by omega, h2⟩]
        · rw [if_neg (fun z => h3 z.1), if_neg (fun z => h3 (by omega))]
      · rw [if_neg (fun z => h2 z.2), if_neg (fun z => h2 z.2)]
theorem ALV_bits {R : Nat → Nat → Int32} {dl : Nat → Nat} {s l d : Nat} (hs : s < 6) (hl : l < 4) (hd : d < 4) : ∀ m, m ≤ 6 → ALV R dl m ((s * 4 + l) * 4 + d) = nI (bN (fun x => decide (R x ((s * 4 + l) * 4 + d) = R x ((s * 4 + ldo dl s) * 4 + dl s))) m)
  | 0, _ => nI_0.symm
  | m + 1, hm => by
    have ih := ALV_bits (R := R) (dl := dl) hs hl hd m (by omega)
    show it (mkA dl (R m) (1 <<< (nI m &&& 31))) 6 (ALV R dl m) ((s * 4 + l) * 4 + d) = _
    rw [mkA_at hs hl hd 6 (Nat.le_refl _), ih, bN_s]
    by_cases h : R m ((s * 4 + l) * 4 + d) = R m ((s * 4 + ldo dl s) * 4 + dl s)
    · rw [if_pos ⟨hs, h⟩, if_pos (decide_eq_true h)]
      exact (or_key _ (bN_lt _ m (by omega)) m (by omega)).2
    · rw [if_neg (fun z => h z.2), if_neg (by rw [decide_eq_true_eq]; exact h)]
/-- a life fits by the one as by the other -/
theorem fit_same {A : Nat → Nat → Int32} {t m : Nat} {age : Int32} {dl : Nat → Nat} {R : Nat → Nat → Int32} (hm : m ≤ 6) (hdl : ∀ s, s < 6 → dl s < 4) (hlf : ∀ s, s < 6 → A 4 s = nI (dl s)) (hR : ∀ x s l d, x < m → s < 6 → l < 4 → d < 4 → valX A t age x s l d = R x ((s * 4 + l) * 4 + d)) {w : Nat} (hw : w < 64) : FitR (gat0 A t age m) (nI w) (fb (ALV R dl m) (nI w)) := fun L hL => by
  rw [gat_bits hm hdl hlf hL, nI_sub_iff (bN_lt _ m hm) hw]
  have hF : ∀ s, s < 6 → (fb (ALV R dl m) (nI w) s (pN L s) (dN L s) = true ↔ ∀ x, w.testBit x = true → x < m ∧ R x ((s * 4 + pN L s) * 4 + dN L s) = R x ((s * 4 + ldo dl s) * 4 + dl s)) := fun s hs => by
    unfold fb
    rw [decide_eq_true_eq, ALV_bits hs (pN_lt L s) (dN_lt L s) m hm, nI_sub_iff (bN_lt _ m hm) hw]
    constructor
    · intro h x hx
      have := h x hx
      rw [bN_bit, Bool.and_eq_true, decide_eq_true_eq, decide_eq_true_eq] at this
      exact this
    · intro h x hx
      rw [bN_bit, Bool.and_eq_true, decide_eq_true_eq, decide_eq_true_eq]
      exact h x hx
  have hv : ∀ x s, x < m → s < 6 → (valX A t age x s (pN L s) (dN L s) = valX A t age x s (ldo dl s) (dl s) ↔ R x ((s * 4 + pN L s) * 4 + dN L s) = R x ((s * 4 + ldo dl s) * 4 + dl s)) := fun x s hx hs => by
    rw [hR x s _ _ hx hs (pN_lt L s) (dN_lt L s), hR x s _ _ hx hs (ldo_lt hdl s (by omega)) (hdl s hs)]
  constructor
  · intro h s hs
    rw [hF s hs]
    intro x hx
    have := h x hx
    rw [bN_bit, Bool.and_eq_true, decide_eq_true_eq, saB_iff] at this
    exact ⟨this.1, (hv x s this.1 hs).mp (this.2 s hs)⟩
  · intro h x hx
    rw [bN_bit, Bool.and_eq_true, decide_eq_true_eq, saB_iff]
    have h0 := (hF 0 (by decide)).mp (h 0 (by decide)) x hx
    exact ⟨h0.1, fun s hs => (hv x s h0.1 hs).mpr ((hF s hs).mp (h s hs) x hx).2⟩
/-- the life itself fits -/
theorem now_fits {R : Nat → Nat → Int32} {dl : Nat → Nat} {m w : Nat} (hm : m ≤ 6) (hdl : ∀ s, s < 6 → dl s < 4) (hw : w < 64) (hwm : w < 2 ^ m) : LPo (fb (ALV R dl m) (nI w)) (nmb dl) := by
  rw [nmb_LP hdl]
  intro s hs
  unfold fb
  rw [decide_eq_true_eq, ALV_bits hs (ldo_lt hdl s (by omega)) (hdl s hs) m hm, nI_sub_iff (bN_lt _ m hm) hw]
  intro x hx
  rw [bN_bit, Bool.and_eq_true, decide_eq_true_eq, decide_eq_true_eq]
  refine ⟨?_, rfl⟩
  rcases Nat.lt_or_ge x m with h | h
  · exact h
  · rw [Nat.testBit_lt_two_pow (Nat.lt_of_lt_of_le hwm (Nat.pow_le_pow_right (by decide) h))] at hx
    exact absurd hx Bool.false_ne_true
