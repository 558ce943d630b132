/-! ===== least sets, bits, loops from above ===== -/
def FL (good : Nat → Prop) (K : Nat → Int32) (n S : Nat) : Prop := S < n ∧ good S ∧ (∀ k, k < n → good k → K S ≤ K k) ∧ ∀ k, k < S → good k → K S < K k
theorem FL.uniq {good : Nat → Prop} {K : Nat → Int32} {n a b : Nat} (h1 : FL good K n a) (h2 : FL good K n b) : a = b := by
  rcases Nat.lt_trichotomy a b with q | q | q
  · exact absurd (h1.2.2.1 b h2.1 h2.2.1) (Int32.not_le.mpr (h2.2.2.2 a q h1.2.1))
  · exact q
  · exact absurd (h2.2.2.1 a h1.1 h1.2.1) (Int32.not_le.mpr (h1.2.2.2 b q h2.2.1))
theorem few_dn {good : Nat → Prop} [∀ S, Decidable (good S)] {K : Nat → Int32} {E : Nat} (hE : good E) : ∀ n, n ≤ E + 1 → good (it (fun i p => if good (E - i) then (if K p < K (E - i) then p else E - i) else p) n E) ∧ it (fun i p => if good (E - i) then (if K p < K (E - i) then p else E - i) else p) n E ≤ E ∧ (∀ k, E < k + n → k ≤ E → good k → K (it (fun i p => if good (E - i) then (if K p < K (E - i) then p else E - i) else p) n E) ≤ K k) ∧ ∀ k, E < k + n → k < it (fun i p => if good (E - i) then (if K p < K (E - i) then p else E - i) else p) n E → good k → K (it (fun i p => if good (E - i) then (if K p < K (E - i) then p else E - i) else p) n E) < K k
  | 0, _ => ⟨hE, Nat.le_refl _, fun k h1 h2 => by exfalso; omega, fun k h1 h2 => by exfalso; have h2 : k < E := h2; omega⟩
  | n + 1, hn => by
    obtain ⟨h1, h2, h3, h4⟩ := few_dn (K := K) hE n (by omega)
    rw [it_succ]
    generalize it (fun i p => if good (E - i) then (if K p < K (E - i) then p else E - i) else p) n E = p at h1 h2 h3 h4
    have hcase : ∀ k, E < k + (n + 1) → k ≤ E → k = E - n ∨ E < k + n := fun k a b => by omega
    by_cases hg : good (E - n)
    · rw [if_pos hg]
      by_cases hk : K p < K (E - n)
      · rw [if_pos hk]
        refine ⟨h1, h2, fun k a b c => ?_, fun k a b c => ?_⟩
        · rcases hcase k a b with e | e
          · rw [e]; exact Int32.le_of_lt hk
          · exact h3 k e b c
        · rcases hcase k a (by omega) with e | e
          · rw [e]; exact hk
          · exact h4 k e b c
      · rw [if_neg hk]
        have hk := Int32.not_lt.mp hk
        refine ⟨hg, by omega, fun k a b c => ?_, fun k a b c => by exfalso; omega⟩
        rcases hcase k a b with e | e
        · rw [e]; exact Int32.le_refl _
        · exact Int32.le_trans hk (h3 k e b c)
    · rw [if_neg hg]
      refine ⟨h1, h2, fun k a b c => ?_, fun k a b c => ?_⟩
      · rcases hcase k a b with e | e
        · rw [e] at c; exact absurd c hg
        · exact h3 k e b c
      · rcases hcase k a (by omega) with e | e
        · rw [e] at c; exact absurd c hg
        · exact h4 k e b c
theorem ls_up {FT : Int32 → Int32} {C : Nat → Int32} {lf : Int32} : ∀ n, n ≤ 64 → (lsP FT C lf n = (-1, 0) ∧ ∀ k, k < n → ¬ FT (nI k) = lf) ∨ ∃ S, lsP FT C lf n = (nI S, C S) ∧ FL (fun k => FT (nI k) = lf) C n S
  | 0, _ => .inl ⟨rfl, fun k hk => absurd hk (Nat.not_lt_zero k)⟩
  | n + 1, hn => by
    have e : lsP FT C lf (n + 1) = lsF FT C lf n (lsP FT C lf n) := rfl
    rcases ls_up (FT := FT) (C := C) (lf := lf) n (by omega) with ⟨h1, h2⟩ | ⟨S, h1, h3, h4, h5, h6⟩
    · rw [e, h1]
      by_cases hq : FT (nI n) = lf
      · right
        refine ⟨n, ?_, by omega, hq, fun k hk hQ => ?_, fun k hk hQ => absurd hQ (h2 k hk)⟩
        · unfold lsF; rw [if_pos (show ((-1 : Int32), (0 : Int32)).1 = -1 from rfl), if_pos hq]
        · by_cases e : k = n
          · rw [e]; exact Int32.le_refl _
          · exact absurd hQ (h2 k (by omega))
      · left
        refine ⟨?_, fun k hk hQ => ?_⟩
        · unfold lsF; rw [if_pos (show ((-1 : Int32), (0 : Int32)).1 = -1 from rfl), if_neg hq]
        · by_cases e : k = n
          · subst e; exact hq hQ
          · exact h2 k (by omega) hQ
    · right
      rw [e, h1]
      have hm : ¬ (nI S, C S).1 = -1 := nI_m1' (show S < 2 ^ 31 by omega)
      by_cases hv : C S ≤ C n
      · refine ⟨S, ?_, by omega, h4, fun k hk hQ => ?_, h6⟩
        · unfold lsF; rw [if_neg hm]; exact if_pos hv
        · by_cases e : k = n
          · rw [e]; exact hv
          · exact h5 k (by omega) hQ
      · have hlt := Int32.not_le.mp hv
        by_cases hq : FT (nI n) = lf
        · refine ⟨n, ?_, by omega, hq, fun k hk hQ => ?_, fun k hk hQ => Int32.lt_of_lt_of_le hlt (h5 k hk hQ)⟩
          · unfold lsF; rw [if_neg hm]; exact (if_neg hv).trans (if_pos hq)
          · by_cases e : k = n
            · rw [e]; exact Int32.le_refl _
            · exact Int32.le_of_lt (Int32.lt_of_lt_of_le hlt (h5 k (by omega) hQ))
        · refine ⟨S, ?_, by omega, h4, fun k hk hQ => ?_, h6⟩
          · unfold lsF; rw [if_neg hm]; exact (if_neg hv).trans (if_neg hq)
          · by_cases e : k = n
            · subst e; exact absurd hQ hq
            · exact h5 k (by omega) hQ
theorem few_fst {R : Nat → Int32} {c : Nat → Int32} {goal : Int32} {E : Nat} : ∀ n, it (fewF R c goal E) n (E, E) = (it (fun i p => if livV R (nI (E - i)) = goal then (if kb 7 (nI p) < kb 7 (nI (E - i)) then p else E - i) else p) n E, it (fun i p => if livV R (nI (E - i)) = goal then (if c p < c (E - i) then p else E - i) else p) n E)
  | 0 => rfl
  | n + 1 => by
    rw [it_succ, it_succ, it_succ, few_fst n]
    unfold fewF
    by_cases h : livV R (nI (E - n)) = goal
    · rw [if_pos h, if_pos h, if_pos h]
    · rw [if_neg h, if_neg h, if_neg h]
theorem few_same {R : Nat → Int32} {c C : Nat → Int32} {E : Nat} {FT : Int32 → Int32} (hE : E < 64) (hF : ∀ k, k < E + 1 → livV R (nI k) = FT (nI k)) (hc : ∀ k, k < E + 1 → c k = C k) : nI (fewP R c (livV R (nI E)) E).1 = lsV FT (fun s => kb 7 (nI s)) (FT (nI E)) E ∧ nI (fewP R c (livV R (nI E)) E).2 = lsV FT C (FT (nI E)) E ∧ (fewP R c (livV R (nI E)) E).2 < E + 1 := by
  have key : ∀ K C' : Nat → Int32, (∀ k, k < E + 1 → K k = C' k) → nI (it (fun i p => if livV R (nI (E - i)) = livV R (nI E) then (if K p < K (E - i) then p else E - i) else p) (E + 1) E) = lsV FT C' (FT (nI E)) E ∧ it (fun i p => if livV R (nI (E - i)) = livV R (nI E) then (if K p < K (E - i) then p else E - i) else p) (E + 1) E < E + 1 := fun K C' hK => by
    obtain ⟨h1, h2, h3, h4⟩ := few_dn (good := fun S => livV R (nI S) = livV R (nI E)) (K := K) (E := E) rfl (E + 1) (Nat.le_refl _)
    generalize it (fun i p => if livV R (nI (E - i)) = livV R (nI E) then (if K p < K (E - i) then p else E - i) else p) (E + 1) E = p at h1 h2 h3 h4 ⊢
    refine ⟨?_, by omega⟩
    have g1 : ∀ k, k < E + 1 → (livV R (nI k) = livV R (nI E) ↔ FT (nI k) = FT (nI E)) := fun k hk => by rw [hF k hk, hF E (by omega)]
    have hFL : FL (fun k => FT (nI k) = FT (nI E)) C' (E + 1) p := ⟨by omega, (g1 p (by omega)).mp h1, fun k hk hg => by rw [← hK k hk, ← hK p (by omega)]; exact h3 k (by omega) (by omega) ((g1 k hk).mpr hg), fun k hk hg => by rw [← hK k (by omega), ← hK p (by omega)]; exact h4 k (by omega) hk ((g1 k (by omega)).mpr hg)⟩
    unfold lsV
    rcases ls_up (FT := FT) (C := C') (lf := FT (nI E)) (E + 1) (by omega) with ⟨_, hno⟩ | ⟨S, e, hS⟩
    · exact absurd rfl (hno E (by omega))
    · rw [e, hFL.uniq hS]
  unfold fewP
  rw [few_fst]
  exact ⟨(key (fun s => kb 7 (nI s)) _ (fun _ _ => rfl)).1, (key c C hc).1, (key c C hc).2⟩
/-! bits of sets -/
theorem bit64 : ∀ w, w < 64 → ∀ x, x < 6 → (((nI w >>> (nI x &&& 31)) &&& 1 = 1) ↔ w.testBit x = true) ∧ (((nI w >>> (nI x &&& 31)) &&& 1 = 0) ↔ w.testBit x = false) := by decide +kernel
theorem sbV_n (q : Nat → Nat → Int32) {m : Nat} (hm : m ≤ 6) : sbV q m = nI (bN (fun x => decide (q x 4 = 1)) m) :=
  bN_nI (fun x => decide (q x 4 = 1)) (fun x v _ => by
    unfold sbF
    by_cases h : q x 4 = 1
    · rw [if_pos h, if_pos (decide_eq_true h)]
    · rw [if_neg h, if_neg (by rw [decide_eq_true_eq]; exact h)]) m hm
theorem bN_ltm (P : Nat → Bool) : ∀ m, bN P m < 2 ^ m
  | 0 => by show 0 < 1; decide
  | m + 1 => by
    rw [bN_s, Nat.pow_succ]
    have ih := bN_ltm P m
    split
    · exact Nat.or_lt_two_pow (n := m + 1) (by rw [Nat.pow_succ]; omega) (by rw [Nat.pow_succ]; have := pos_pow m; omega)
    · omega
where pos_pow (m : Nat) : 0 < 2 ^ m := Nat.pow_pos (by decide)
theorem sent_same {f : Nat → Int32} {q : Nat → Nat → Int32} {m : Nat} (hm : m ≤ 6) (h : ∀ x, x < m → f (3 * x + 2) = q x 4 ∧ (q x 4 = 0 ∨ q x 4 = 1)) : sentV f m = sbV q m := by
  refine it_congr m (fun x v hx => ?_)
  obtain ⟨h1, h2⟩ := h x hx
  have e : (3 * nI x + 2).toNatClampNeg = 3 * x + 2 := row_cl (x := x) (j := 2) (by omega) (by decide)
  unfold sentF sbF
  rw [e, h1]
  rcases h2 with h2 | h2
  · rw [h2, if_neg (by decide), sh_zero x (by omega), Int32.or_zero]
  · rw [h2, if_pos rfl]
theorem sb_bit {q : Nat → Nat → Int32} {m x : Nat} (hm : m ≤ 6) (hx : x < m) (h : q x 4 = 0 ∨ q x 4 = 1) : ((sbV q m >>> (nI x &&& 31)) &&& 1 = 0) ↔ q x 4 = 0 := by
  rw [sbV_n q hm, (bit64 _ (bN_lt _ m hm) x (by omega)).2, bN_bit]
  rcases h with h | h
  · simp [h]
  · simp [h, hx]
theorem bst_same {R : Nat → Int32} {c C : Nat → Int32} {q : Nat → Nat → Int32} {m : Nat} {L : Int32} (hm : m ≤ 6) (h : ∀ x, x < m → q x 4 = 0 ∨ q x 4 = 1) (hc : ∀ x, x < m → c x = C x) (hL : livV R (sbV q m) = L) : bstP R c (sbV q m) m = bcP q C m L := by
  unfold bstP bcP
  rw [hL]
  refine it_congr m (fun x p hx => ?_)
  unfold bstF bcF2
  rw [hc x hx]
  by_cases h0 : q x 4 = 0
  · rw [if_pos h0, if_pos ((sb_bit hm hx (h x hx)).mpr h0)]
  · rw [if_neg h0, if_neg (fun z => h0 ((sb_bit hm hx (h x hx)).mp z))]
/-! loops from above -/
theorem it_rev {α β : Type} {op : α → β → α} (hop : ∀ v a b, op (op v a) b = op (op v b) a) (f : Nat → β) : ∀ L e, it (fun i v => op v (f (L - i))) (L + 1) e = it (fun i v => op v (f i)) (L + 1) e
  | 0, e => rfl
  | L + 1, e => by
    rw [it_first]
    have h1 : it (fun k p => op p (f (L + 1 - (k + 1)))) (L + 1) (op e (f (L + 1 - 0))) = it (fun k v => op v (f (L - k))) (L + 1) (op e (f (L + 1))) := it_congr (L + 1) (fun k p _ => by rw [show L + 1 - (k + 1) = L - k by omega])
    have h2 : ∀ n e, it (fun i v => op v (f i)) n (op e (f (L + 1))) = op (it (fun i v => op v (f i)) n e) (f (L + 1)) := by
      intro n
      induction n with
      | zero => intro e; rfl
      | succ n ih => intro e; rw [it_succ, it_succ, ih, hop]
    rw [h1, it_rev hop f L, h2, ← it_succ (fun i v => op v (f i))]
theorem tel_1 {P one : Nat → Int32} {L : Nat} : ∀ n, (it (telF P one L) n (0, 0, -1)).1 = it (fun i v => v ||| (if P (L - i) = -1 then one (L - i) else 0)) n 0 ∧ (it (telF P one L) n (0, 0, -1)).2.1 = it (fun i v => v + (if P (L - i) = -1 then 1 else 0)) n 0
  | 0 => ⟨rfl, rfl⟩
  | n + 1 => by
    obtain ⟨h1, h2⟩ := tel_1 (P := P) (one := one) (L := L) n
    rw [it_succ, it_succ, it_succ, ← h1, ← h2]
    unfold telF
    by_cases h : P (L - n) = -1
    · rw [if_pos h, if_pos h, if_pos h]; exact ⟨rfl, rfl⟩
    · rw [if_neg h, if_neg h, if_neg h, Int32.or_zero, Int32.add_zero]; exact ⟨rfl, rfl⟩
theorem tel_or {P : Nat → Int32} {L : Nat} : (telP P (fun v => 1 <<< (nI v &&& 31)) L).1 = tlV P (L + 1) := by
  unfold telP tlV
  rw [(tel_1 (L + 1)).1, it_rev (op := fun v a : Int32 => v ||| a) (fun v a b => by show v ||| a ||| b = v ||| b ||| a; rw [Int32.or_assoc, Int32.or_comm a b, ← Int32.or_assoc]) (fun j => if P j = -1 then 1 <<< (nI j &&& 31) else 0) L 0]
  refine it_congr (L + 1) (fun k v _ => ?_)
  unfold tlF
  by_cases h : P k = -1
  · rw [if_pos h, if_pos h]
  · rw [if_neg h, if_neg h, Int32.or_zero]
theorem tel_cnt {P one : Nat → Int32} {L : Nat} : (telP P one L).2.1 = tcV P (L + 1) := by
  unfold telP tcV
  rw [(tel_1 (L + 1)).2, it_rev (op := fun v a : Int32 => v + a) (fun v a b => by show v + a + b = v + b + a; rw [Int32.add_assoc, Int32.add_comm a b, ← Int32.add_assoc]) (fun j => if P j = -1 then 1 else 0) L 0]
  refine it_congr (L + 1) (fun k v _ => ?_)
  by_cases h : P k = -1
  · rw [if_pos h, if_pos h]
  · rw [if_neg h, if_neg h, Int32.add_zero]
theorem tel_least {P one : Nat → Int32} {L : Nat} : (telP P one L).2.2 = fsI (fun k => decide (P k = -1)) (L + 1) := by
  unfold telP
  have hno : ∀ n, (∀ i, i < n → ¬ P (L - i) = -1) → (it (telF P one L) n (0, 0, -1)).2.2 = -1 := by
    intro n
    induction n with
    | zero => intro _; rfl
    | succ n ih =>
      intro h
      rw [it_succ]
      unfold telF
      rw [if_neg (h n (by omega))]
      exact ih (fun i hi => h i (by omega))
  by_cases hall : ∀ j, j < L + 1 → ¬ decide (P j = -1) = true
  · rw [← fs_n (P := fun k => decide (P k = -1)) hall]
    exact hno _ (fun i hi z => hall (L - i) (by omega) (decide_eq_true z))
  · have hex : ∃ j, j < L + 1 ∧ P j = -1 := Classical.byContradiction (fun z => hall (fun j hj hd => z ⟨j, hj, of_decide_eq_true hd⟩))
    obtain ⟨j, hj, hp, hmin⟩ : ∃ j, j < L + 1 ∧ P j = -1 ∧ ∀ k, k < j → ¬ P k = -1 := by
      have key : ∀ n, (∃ j, j < n ∧ P j = -1) → ∃ j, j < n ∧ P j = -1 ∧ ∀ k, k < j → ¬ P k = -1 := by
        intro n
        induction n with
        | zero => rintro ⟨j, hj, _⟩; exact absurd hj (Nat.not_lt_zero j)
        | succ n ih =>
          intro h
          by_cases h2 : ∃ j, j < n ∧ P j = -1
          · obtain ⟨j, a, b, c⟩ := ih h2; exact ⟨j, by omega, b, c⟩
          · obtain ⟨j, a, b⟩ := h
            refine ⟨j, a, b, fun k hk z => h2 ⟨k, by omega, z⟩⟩
      exact key _ hex
    rw [← fs_y (P := fun k => decide (P k = -1)) hj (fun k hk z => hmin k hk (of_decide_eq_true z)) (decide_eq_true hp)]
    have after : ∀ n, (it (telF P one L) (L - j + 1 + n) (0, 0, -1)).2.2 = nI j ∨ L < L - j + n := by
      intro n
      induction n with
      | zero =>
        left
        rw [Nat.add_zero, it_succ]
        unfold telF
        rw [show L - (L - j) = j by omega, if_pos hp]
      | succ n ih =>
        rcases ih with ih | ih
        · by_cases h2 : L < L - j + (n + 1)
          · exact .inr h2
          · left
            rw [← Nat.add_assoc, it_succ]
            unfold telF
            rw [if_neg (hmin _ (by omega))]
            exact ih
        · right; omega
    rcases after j with h | h
    · rw [show L - j + 1 + j = L + 1 by omega] at h; exact h
    · omega
theorem fst_c {P Q : Nat → Bool} {N : Nat} (h : ∀ x, x < N → P x = Q x) : fst P N = fst Q N := by
  have key : ∀ l : List Nat, (∀ x ∈ l, P x = Q x) → l.find? P = l.find? Q := by
    intro l
    induction l with
    | nil => intro _; rfl
    | cons a l ih =>
      intro hl
      rw [List.find?_cons, List.find?_cons, hl a List.mem_cons_self, ih (fun x hx => hl x (List.mem_cons_of_mem _ hx))]
  exact key _ (fun x hx => h x (List.mem_range.mp hx))
theorem fsI_c {P Q : Nat → Bool} {N : Nat} (h : ∀ x, x < N → P x = Q x) : fsI P N = fsI Q N := by
  unfold fsI; rw [fst_c h]
/-! lives told -/
def DGn : Nat → Nat → Nat → Nat
  | 0, g, _ => g
  | r + 1, g, n => DGn r (g * 10 + n / 4 ^ r + 1) (n % 4 ^ r)
theorem DGT_n : ∀ r g n, DGT r (nI g) n = nI (DGn r g n)
  | 0, _, _ => rfl
  | r + 1, g, n => by
    show DGT r (nI g * 10 + nI (n / 4 ^ r) + 1) (n % 4 ^ r) = _
    rw [show nI g * 10 = nI (g * 10) from pk_mul g 10, nI_add, nI_1, DGT_n r]
    rfl
theorem DGn_rng : ∀ r g n, n < 4 ^ r → g * 10 ^ r ≤ DGn r g n ∧ DGn r g n < (g + 1) * 10 ^ r
  | 0, g, n, _ => by show g * 1 ≤ g ∧ g < (g + 1) * 1; omega
  | r + 1, g, n, hn => by
    have hd := div_lt4 hn
    obtain ⟨h1, h2⟩ := DGn_rng r (g * 10 + n / 4 ^ r + 1) (n % 4 ^ r) (Nat.mod_lt _ (pos4 r))
    show g * 10 ^ (r + 1) ≤ DGn r (g * 10 + n / 4 ^ r + 1) (n % 4 ^ r) ∧ DGn r (g * 10 + n / 4 ^ r + 1) (n % 4 ^ r) < (g + 1) * 10 ^ (r + 1)
    have a1 : g * 10 ^ (r + 1) = g * 10 * 10 ^ r := by rw [Nat.pow_succ, Nat.mul_comm (10 ^ r) 10, ← Nat.mul_assoc]
    have a2 : (g + 1) * 10 ^ (r + 1) = (g + 1) * 10 * 10 ^ r := by rw [Nat.pow_succ, Nat.mul_comm (10 ^ r) 10, ← Nat.mul_assoc]
    rw [a1, a2]
    generalize n % 4 ^ r = e at h1 h2 ⊢
    generalize n / 4 ^ r = d at hd h1 h2 ⊢
    have b1 : g * 10 ≤ g * 10 + d + 1 := by omega
    have b2 : g * 10 + d + 1 + 1 ≤ (g + 1) * 10 := by omega
    exact ⟨Nat.le_trans (Nat.mul_le_mul_right _ b1) h1, Nat.lt_of_lt_of_le h2 (Nat.mul_le_mul_right _ b2)⟩
theorem digV_ne {L : Nat} (hL : L < 4096) : ¬ digV (nI L) = 0 := by
  rw [digV_n hL, show (0 : Int32) = nI 0 from nI_0.symm, DGT_n]
  have h1 : DGn 6 0 L = DGn 5 (0 * 10 + L / 4 ^ 5 + 1) (L % 4 ^ 5) := rfl
  have h2 := DGn_rng 5 (0 * 10 + L / 4 ^ 5 + 1) (L % 4 ^ 5) (Nat.mod_lt _ (pos4 5))
  have h3 := (DGn_rng 6 0 L (show L < 4 ^ 6 from hL)).2
  rw [← h1] at h2
  have h4 : 1 * 10 ^ 5 ≤ (0 * 10 + L / 4 ^ 5 + 1) * 10 ^ 5 := Nat.mul_le_mul_right _ (by omega)
  intro z
  have := (nI_eq (Nat.lt_of_lt_of_le h3 (by decide)) (by decide)).mp z
  have h5 : 1 * 10 ^ 5 ≤ DGn 6 0 L := Nat.le_trans h4 h2.1
  rw [this] at h5
  exact absurd h5 (by decide)
theorem LTA_at {sy row : Nat → Int32} {s l d : Nat} (hs : s < 6) (hl : l < 4) (hd : d < 4) : ∀ n, LTA sy row n ((s * 4 + l) * 4 + d) = if s < n ∧ sy ((s * 4 + l) * 4 + d) = row s then 1 else 0
  | 0 => (if_neg (fun z => absurd z.1 (Nat.not_lt_zero s))).symm
  | n + 1 => by
    have ih := LTA_at (sy := sy) (row := row) hs hl hd n
    show mkW (LTA sy row n) sy ((n * 4 + 0) * 4 + 0) (row n) 1 16 ((s * 4 + l) * 4 + d) = _
    unfold mkW
    rw [ih]
    by_cases e : s = n
    · subst e
      rw [if_neg (c := s < s ∧ _) (fun z => absurd z.1 (Nat.lt_irrefl s))]
      by_cases h2 : sy ((s * 4 + l) * 4 + d) = row s
      · rw [if_pos ⟨⟨by omega, by omega⟩, h2⟩, if_pos ⟨by omega, h2⟩]; decide
      · rw [if_neg (fun z => h2 z.2), if_neg (fun z => h2 z.2)]
    · rw [if_neg (c := ((n * 4 + 0) * 4 + 0 ≤ (s * 4 + l) * 4 + d ∧ _) ∧ _) (fun z => e (by omega))]
      by_cases h2 : sy ((s * 4 + l) * 4 + d) = row s
      · by_cases h3 : s < n
        · rw [if_pos ⟨h3, h2⟩, if_pos ⟨by omega, h2⟩]
        · rw [if_neg (fun z => h3 z.1), if_neg (fun z => h3 (by omega))]
      · rw [if_neg (fun z => h2 z.2), if_neg (fun z => h2 z.2)]
theorem LTA_fb {sy row : Nat → Int32} {s l d : Nat} (hs : s < 6) (hl : l < 4) (hd : d < 4) : fb (LTA sy row 6) 1 s l d = true ↔ sy ((s * 4 + l) * 4 + d) = row s := by
  unfold fb
  rw [decide_eq_true_eq, LTA_at hs hl hd]
  by_cases h : sy ((s * 4 + l) * 4 + d) = row s
  · rw [if_pos ⟨hs, h⟩]; exact ⟨fun _ => h, fun _ => by decide⟩
  · rw [if_neg (fun z => h z.2)]; exact ⟨fun z => absurd z (by decide), fun z => absurd z h⟩
theorem lt_same {T f sy row : Nat → Int32} {sh x : Nat} (hT : ∀ s L, s < 6 → L < 4096 → byV T (nI x) (nI s) (nI L) = sy ((s * 4 + pN L s) * 4 + dN L s)) (hf : ∀ s, s < 6 → f (40 * nI sh + nI s).toNatClampNeg = row s) : (ltP T f sh x).1 = nI (Wn (fb (LTA sy row 6) 1) 6 0) ∧ (ltP T f sh x).2 = if nI (Wn (fb (LTA sy row 6) 1) 6 0) ≤ 0 then 0 else (dgN (fb (LTA sy row 6) 1) 0 6).2.1 := by
  have told : ∀ L, L < 4096 → (it (tolF T f sh x (nI L)) 6 1 = 0 ↔ ¬ PB (fb (LTA sy row 6) 1) 6 0 L = true) := fun L hL => by
    rw [(it_all (P := fun s => byV T (nI x) (nI s) (nI L) = f (40 * nI sh + nI s).toNatClampNeg) (f := tolF T f sh x (nI L)) (fun s v => rfl) 6).1, LPo_PB hL]
    constructor
    · intro h z
      exact h (fun s hs => by rw [hT s L hs hL, hf s hs]; exact (LTA_fb hs (pN_lt L s) (dN_lt L s)).mp (z s hs))
    · intro h z
      exact h (fun s hs => (LTA_fb hs (pN_lt L s) (dN_lt L s)).mpr (by have := z s hs; rw [hT s L hs hL, hf s hs] at this; exact this))
  have key : ∀ n, n ≤ 4096 → (it (ltF T f sh x) n (0, 0)).1 = nI (cnP (PB (fb (LTA sy row 6) 1) 6 0) n) ∧ ((cnP (PB (fb (LTA sy row 6) 1) 6 0) n = 0 ∧ (it (ltF T f sh x) n (0, 0)).2 = 0) ∨ ∃ L, L < n ∧ PB (fb (LTA sy row 6) 1) 6 0 L = true ∧ cnP (PB (fb (LTA sy row 6) 1) 6 0) L = 0 ∧ 0 < cnP (PB (fb (LTA sy row 6) 1) 6 0) n ∧ (it (ltF T f sh x) n (0, 0)).2 = digV (nI L)) := by
    intro n
    induction n with
    | zero => intro _; exact ⟨nI_0.symm, .inl ⟨rfl, rfl⟩⟩
    | succ n ih =>
      intro hn
      obtain ⟨h1, h2⟩ := ih (by omega)
      rw [it_succ, cnP_s]
      generalize it (ltF T f sh x) n (0, 0) = p at h1 h2 ⊢
      by_cases hp : PB (fb (LTA sy row 6) 1) 6 0 n = true
      · have hq : ¬ it (tolF T f sh x (nI n)) 6 1 = 0 := fun z => (told n (by omega)).mp z hp
        rw [if_pos hp]
        rcases h2 with ⟨h3, h4⟩ | ⟨L, a1, a2, a3, a4, a5⟩
        · have e : ltF T f sh x n p = (p.1 + 1, digV (nI n)) := by unfold ltF; rw [if_neg hq, if_pos h4]
          rw [e]
          exact ⟨by show p.1 + 1 = _; rw [h1, nI_1], .inr ⟨n, by omega, hp, h3, by omega, rfl⟩⟩
        · have e : ltF T f sh x n p = (p.1 + 1, p.2) := by unfold ltF; rw [if_neg hq, if_neg (by rw [a5]; exact digV_ne (by omega))]
          rw [e]
          exact ⟨by show p.1 + 1 = _; rw [h1, nI_1], .inr ⟨L, by omega, a2, a3, by omega, a5⟩⟩
      · have e : ltF T f sh x n p = p := by unfold ltF; rw [if_pos ((told n (by omega)).mpr hp)]
        rw [e, if_neg hp, Nat.add_zero]
        refine ⟨h1, ?_⟩
        rcases h2 with h2 | ⟨L, a1, a2⟩
        · exact .inl h2
        · exact .inr ⟨L, by omega, a2⟩
  obtain ⟨h1, h2⟩ := key 4096 (Nat.le_refl _)
  have hW : cnP (PB (fb (LTA sy row 6) 1) 6 0) 4096 = Wn (fb (LTA sy row 6) 1) 6 0 := cnP_W _ 6 0
  rw [hW] at h1 h2
  refine ⟨h1, ?_⟩
  rcases h2 with ⟨h3, h4⟩ | ⟨L, a1, a2, a3, a4, a5⟩
  · rw [h3, if_pos (by decide)]; exact h4
  · have hle := Wn_le6 (fb (LTA sy row 6) 1) (Nat.le_refl 6) 0
    rw [if_neg (nI_nle a4 (by omega))]
    obtain ⟨n, b1, b2, b3, b4⟩ := kth (F := fb (LTA sy row 6) 1) 6 (Nat.le_refl _) 0 0 0 a4
    have hn : n = L := by
      rcases Nat.lt_trichotomy n L with q | q | q
      · have := cnP_lt (P := PB (fb (LTA sy row 6) 1) 6 0) q b2; omega
      · exact q
      · have := cnP_lt (P := PB (fb (LTA sy row 6) 1) 6 0) q a2; omega
    subst hn
    show (it (ltF T f sh x) 4096 (0, 0)).2 = _
    rw [a5, digV_n a1, ← b4]
    unfold dgN
    rw [it_congr (f := fun k p => dgS (fb (LTA sy row 6) 1) (6 - 6 + k) p) (g := dgS (fb (LTA sy row 6) 1)) 6 (fun k p _ => by show dgS _ (0 + k) p = _; rw [Nat.zero_add])]
