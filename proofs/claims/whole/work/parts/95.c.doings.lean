/-! ===== doings at a step, sure steps, the k-th life ===== -/
def orN (P : Nat → Bool) (g : Nat → Nat) (n : Nat) : Nat := it (fun i v => if P i = true then v ||| 2 ^ g i else v) n 0
theorem orN_s (P : Nat → Bool) (g : Nat → Nat) (n : Nat) : orN P g (n + 1) = if P n = true then orN P g n ||| 2 ^ g n else orN P g n := rfl
theorem orN_bit (P : Nat → Bool) (g : Nat → Nat) (d : Nat) : ∀ n, (orN P g n).testBit d = true ↔ ∃ i, i < n ∧ P i = true ∧ g i = d
  | 0 => by
    constructor
    · intro h
      rw [show orN P g 0 = 0 from rfl, Nat.zero_testBit] at h
      exact absurd h Bool.false_ne_true
    · rintro ⟨i, hi, _⟩; exact absurd hi (Nat.not_lt_zero i)
  | n + 1 => by
    have ih := orN_bit P g d n
    have up : (∃ i, i < n ∧ P i = true ∧ g i = d) → ∃ i, i < n + 1 ∧ P i = true ∧ g i = d := fun ⟨i, h, q⟩ => ⟨i, by omega, q⟩
    rw [orN_s]
    by_cases hp : P n = true
    · rw [if_pos hp, Nat.testBit_or, Nat.testBit_two_pow, Bool.or_eq_true, ih, decide_eq_true_eq]
      constructor
      · rintro (h | h)
        · exact up h
        · exact ⟨n, by omega, hp, h⟩
      · rintro ⟨i, hi, h1, h2⟩
        by_cases e : i = n
        · subst e; exact .inr h2
        · exact .inl ⟨i, by omega, h1, h2⟩
    · rw [if_neg hp, ih]
      refine ⟨up, ?_⟩
      rintro ⟨i, hi, h1, h2⟩
      by_cases e : i = n
      · subst e; exact absurd h1 hp
      · exact ⟨i, by omega, h1, h2⟩
theorem orN_lt {P : Nat → Bool} {g : Nat → Nat} (hg : ∀ i, g i < 4) : ∀ n, orN P g n < 16
  | 0 => by show 0 < 16; decide
  | n + 1 => by
    rw [orN_s]
    split
    · exact (or16 _ (orN_lt hg n) _ (hg n)).1
    · exact orN_lt hg n
theorem canV_N {R : Nat → Int32} {set : Int32} {F : Nat → Nat → Nat → Bool} (h : FitR R set F) {s : Nat} (hs : s < 6) : canV R (nI s) set = nI (orN (PB F 6 0) (fun L => dN L s) 4096) := by
  have key : ∀ n, n ≤ 4096 → it (canF R (nI s) set) n 0 = nI (orN (PB F 6 0) (fun L => dN L s) n) := by
    intro n
    induction n with
    | zero => intro _; exact nI_0.symm
    | succ n ih =>
      intro hn
      rw [it_succ, ih (by omega), orN_s]
      unfold canF
      by_cases hp : PB F 6 0 n = true
      · rw [if_pos ((h.pb (by omega)).mpr hp), if_pos hp, doV_n (by omega) hs]
        exact (or16 _ (orN_lt (fun L => dN_lt L s) n) _ (dN_lt n s)).2
      · rw [if_neg (fun z => hp ((h.pb (by omega)).mp z)), if_neg hp, Int32.or_zero]
  exact key 4096 (Nat.le_refl _)
theorem dbN_or (F : Nat → Nat → Nat → Bool) (s L : Nat) : dbN F s L = orN (fun i => L.testBit (i / 4) && decide (0 < wadd F s (i / 4) (i % 4))) (fun i => i % 4) 16 := by
  unfold dbN orN
  refine it_congr 16 (fun i v _ => ?_)
  unfold dbF
  show _ = if (L.testBit (i / 4) && decide (0 < wadd F s (i / 4) (i % 4))) = true then v ||| 2 ^ (i % 4) else v
  cases h1 : L.testBit (i / 4) with
  | false => rw [if_neg Bool.false_ne_true, Bool.false_and, if_neg Bool.false_ne_true]
  | true =>
    rw [if_pos rfl, Bool.true_and]
    by_cases h2 : 0 < wadd F s (i / 4) (i % 4)
    · rw [if_pos h2, if_pos (decide_eq_true h2)]
    · rw [if_neg h2, if_neg (by rw [decide_eq_true_eq]; exact h2)]
theorem dbN_bit {F : Nat → Nat → Nat → Bool} {s L d : Nat} : (dbN F s L).testBit d = true ↔ d < 4 ∧ ∃ l, l < 4 ∧ L.testBit l = true ∧ 0 < wadd F s l d := by
  rw [dbN_or, orN_bit]
  constructor
  · rintro ⟨i, hi, h, rfl⟩
    rw [Bool.and_eq_true, decide_eq_true_eq] at h
    exact ⟨Nat.mod_lt _ (by decide), i / 4, by omega, h.1, h.2⟩
  · rintro ⟨hd, l, hl, h1, h2⟩
    refine ⟨l * 4 + d, by omega, ?_, by show (l * 4 + d) % 4 = d; omega⟩
    rw [Bool.and_eq_true, decide_eq_true_eq, show (l * 4 + d) / 4 = l by omega, show (l * 4 + d) % 4 = d by omega]
    exact ⟨h1, h2⟩
theorem wadd_pos_iff {F : Nat → Nat → Nat → Bool} {s l d : Nat} : 0 < wadd F s l d ↔ F s l d = true ∧ 0 < Wn F (5 - s) d := by
  unfold wadd
  by_cases h : F s l d = true
  · rw [if_pos h]; exact ⟨fun z => ⟨h, z⟩, fun z => z.2⟩
  · rw [if_neg h]; exact ⟨fun z => absurd z (Nat.lt_irrefl 0), fun z => absurd z.1 h⟩
/-- the rest of a life that fits fits -/
theorem PB_tail {F : Nat → Nat → Nat → Bool} {L : Nat} (hL : L < 4096) (h : PB F 6 0 L = true) : ∀ k, k ≤ 6 → PB F (6 - k) (pN L k) (L % 4 ^ (6 - k)) = true
  | 0, _ => by rw [show L % 4 ^ (6 - 0) = L from Nat.mod_eq_of_lt (by show L < 4096; exact hL)]; exact h
  | k + 1, hk => by
    have ih := PB_tail hL h k (by omega)
    have e : 6 - k = (6 - (k + 1)) + 1 := by omega
    rw [e] at ih
    generalize hr : 6 - (k + 1) = r at ih ⊢
    have ih : (F (5 - r) (pN L k) (L % 4 ^ (r + 1) / 4 ^ r) && PB F r (L % 4 ^ (r + 1) / 4 ^ r) (L % 4 ^ (r + 1) % 4 ^ r)) = true := ih
    have h1 : L % 4 ^ (r + 1) / 4 ^ r = pN L (k + 1) := by
      show _ = L / 4 ^ (5 - k) % 4
      rw [show 5 - k = r by omega, Nat.pow_succ, Nat.mod_mul_right_div_self]
    have h2 : L % 4 ^ (r + 1) % 4 ^ r = L % 4 ^ r := by rw [Nat.pow_succ, Nat.mod_mul_right_mod]
    rw [h1, h2, Bool.and_eq_true] at ih
    exact ih.2
theorem W_pos {F : Nat → Nat → Nat → Bool} {r l n : Nat} (hn : n < 4 ^ r) (h : PB F r l n = true) : 0 < Wn F r l := by
  rw [← cnP_W]
  exact Nat.lt_of_le_of_lt (Nat.zero_le (cnP (PB F r l) n)) (cnP_lt hn h)
theorem dbs_of {F : Nat → Nat → Nat → Bool} {L : Nat} (hL : L < 4096) (h : LPo F L) : ∀ s, s ≤ 6 → (dbs F s).testBit (pN L s) = true
  | 0, _ => by show (1 : Nat).testBit 0 = true; decide
  | s + 1, hs => by
    have ih := dbs_of hL h s (by omega)
    show (dbN F s (dbs F s)).testBit (dN L s) = true
    rw [dbN_bit]
    refine ⟨dN_lt L s, pN L s, pN_lt L s, ih, wadd_pos_iff.mpr ⟨h s (by omega), ?_⟩⟩
    have ht := PB_tail hL ((LPo_PB hL).mpr h) (s + 1) hs
    rw [show 6 - (s + 1) = 5 - s by omega] at ht
    exact W_pos (Nat.mod_lt _ (pos4 _)) ht
theorem suffix {F : Nat → Nat → Nat → Bool} : ∀ r, r ≤ 6 → ∀ l n, n < 4 ^ r → PB F r l n = true → ∃ e : Nat → Nat, (∀ i, e i < 4) ∧ ∀ i, 6 - r ≤ i → i < 6 → F i (if i = 6 - r then l else e (i - 1)) (e i) = true
  | 0, _, _, _, _, _ => ⟨fun _ => 0, fun _ => (by decide : 0 < 4), fun i h1 h2 => absurd h2 (by omega)⟩
  | r + 1, hr, l, n, hn, h => by
    have h : (F (5 - r) l (n / 4 ^ r) && PB F r (n / 4 ^ r) (n % 4 ^ r)) = true := h
    rw [Bool.and_eq_true] at h
    have hd : n / 4 ^ r < 4 := by
      rw [Nat.div_lt_iff_lt_mul (pos4 r), Nat.mul_comm, ← Nat.pow_succ]; exact hn
    obtain ⟨e, he, hF⟩ := suffix r (by omega) (n / 4 ^ r) (n % 4 ^ r) (Nat.mod_lt _ (pos4 r)) h.2
    refine ⟨fun i => if i = 5 - r then n / 4 ^ r else e i, fun i => ?_, fun i h1 h2 => ?_⟩
    · show (if i = 5 - r then n / 4 ^ r else e i) < 4
      split
      · exact hd
      · exact he i
    · show F i (if i = 6 - (r + 1) then l else (if i - 1 = 5 - r then n / 4 ^ r else e (i - 1))) (if i = 5 - r then n / 4 ^ r else e i) = true
      by_cases e1 : i = 5 - r
      · rw [if_pos (show i = 6 - (r + 1) by omega), if_pos e1, e1]; exact h.1
      · rw [if_neg (show ¬ i = 6 - (r + 1) by omega), if_neg e1]
        have := hF i (by omega) h2
        by_cases e2 : i = 6 - r
        · rw [if_pos e2] at this; rw [if_pos (show i - 1 = 5 - r by omega)]; exact this
        · rw [if_neg e2] at this; rw [if_neg (show ¬ i - 1 = 5 - r by omega)]; exact this
theorem prefix_ {F : Nat → Nat → Nat → Bool} : ∀ s, s ≤ 6 → ∀ l, (dbs F s).testBit l = true → ∃ e : Nat → Nat, (∀ i, e i < 4) ∧ (∀ i, i < s → F i (ldo e i) (e i) = true) ∧ ldo e s = l
  | 0, _, l, h => by
    refine ⟨fun _ => 0, fun _ => (by decide : 0 < 4), fun i hi => absurd hi (Nat.not_lt_zero i), ?_⟩
    have h : (2 ^ 0 : Nat).testBit l = true := h
    rw [Nat.testBit_two_pow, decide_eq_true_eq] at h
    exact h
  | s + 1, hs, d, h => by
    have h : (dbN F s (dbs F s)).testBit d = true := h
    rw [dbN_bit] at h
    obtain ⟨hd, l, hl, h1, h2⟩ := h
    obtain ⟨e, he, hF, hl2⟩ := prefix_ s (by omega) l h1
    have h3 := (wadd_pos_iff.mp h2).1
    have hsame : ∀ i, i ≤ s → ldo (fun i => if i = s then d else e i) i = ldo e i := fun i hi => by
      cases i with
      | zero => rfl
      | succ i => show (if i = s then d else e i) = e i; rw [if_neg (by omega)]
    refine ⟨fun i => if i = s then d else e i, fun i => ?_, fun i hi => ?_, ?_⟩
    · show (if i = s then d else e i) < 4
      split
      · exact hd
      · exact he i
    · rw [hsame i (by omega)]
      show F i (ldo e i) (if i = s then d else e i) = true
      by_cases e1 : i = s
      · subst e1; rw [if_pos rfl, hl2]; exact h3
      · rw [if_neg e1]; exact hF i (by omega)
    · show (if s = s then d else e s) = d
      exact if_pos rfl
theorem dbs_iff {F : Nat → Nat → Nat → Bool} {s d : Nat} (hs : s < 6) : (dbs F (s + 1)).testBit d = true ↔ ∃ L, L < 4096 ∧ PB F 6 0 L = true ∧ dN L s = d := by
  constructor
  · intro h
    obtain ⟨e, he, hF, hl⟩ := prefix_ (s + 1) (by omega) d h
    have h2 : (dbN F s (dbs F s)).testBit d = true := h
    rw [dbN_bit] at h2
    obtain ⟨hd, l, _, _, h3⟩ := h2
    have h4 := (wadd_pos_iff.mp h3).2
    rw [← cnP_W] at h4
    obtain ⟨k, hk, hp⟩ := cnP_pos h4
    obtain ⟨e2, he2, hF2⟩ := suffix (5 - s) (by omega) d k hk hp
    have hl : e s = d := hl
    have h4' : ∀ i, i < 6 → (if i ≤ s then e i else e2 i) < 4 := fun i _ => by
      split
      · exact he i
      · exact he2 i
    refine ⟨nmb (fun i => if i ≤ s then e i else e2 i), nmb_lt h4', ?_, ?_⟩
    · rw [LPo_PB (nmb_lt h4'), nmb_LP h4']
      intro i hi
      by_cases h5 : i ≤ s
      · have e6 : ldo (fun i => if i ≤ s then e i else e2 i) i = ldo e i := by
          cases i with
          | zero => rfl
          | succ i => show (if i ≤ s then e i else e2 i) = e i; rw [if_pos (by omega)]
        rw [e6]
        show F i (ldo e i) (if i ≤ s then e i else e2 i) = true
        rw [if_pos h5]
        exact hF i (by omega)
      · have h6 := hF2 i (by omega) hi
        have e6 : ldo (fun i => if i ≤ s then e i else e2 i) i = if i = 6 - (5 - s) then d else e2 (i - 1) := by
          cases i with
          | zero => exact absurd (Nat.zero_le s) h5
          | succ i =>
            show (if i ≤ s then e i else e2 i) = _
            by_cases e7 : i = s
            · rw [if_pos (by omega), if_pos (by omega), e7, hl]
            · rw [if_neg (by omega), if_neg (by omega)]; rfl
        rw [e6]
        show F i _ (if i ≤ s then e i else e2 i) = true
        rw [if_neg h5]
        exact h6
    · rw [nmb_at h4' s hs]
      show (if s ≤ s then e s else e2 s) = d
      rw [if_pos (Nat.le_refl _)]
      exact hl
  · rintro ⟨L, hL, h, rfl⟩
    exact dbs_of hL ((LPo_PB hL).mp h) (s + 1) hs
theorem canV_D {R : Nat → Int32} {set : Int32} {F : Nat → Nat → Nat → Bool} (h : FitR R set F) {s : Nat} (hs : s < 6) : canV R (nI s) set = nI (dbs F (s + 1)) := by
  rw [canV_N h hs]
  congr 1
  apply Nat.eq_of_testBit_eq
  intro d
  rw [Bool.eq_iff_iff, orN_bit, dbs_iff hs]
theorem sureV_D {R : Nat → Int32} {set : Int32} {F : Nat → Nat → Nat → Bool} (h : FitR R set F) : sureV R set = suN F := by
  unfold sureV suN
  refine it_congr 6 (fun s v hs => ?_)
  unfold sureF suF
  rw [canV_D h hs]
  by_cases e : kb 7 (nI (dbs F (s + 1))) = 1
  · rw [if_pos e, if_pos e]
  · rw [if_neg e, if_neg e, sh_zero s hs, Int32.or_zero]
/-! the k-th life -/
def DGT : Nat → Int32 → Nat → Int32
  | 0, dig, _ => dig
  | r + 1, dig, n => DGT r (dig * 10 + nI (n / 4 ^ r) + 1) (n % 4 ^ r)
theorem dgF_spec {F : Nat → Nat → Nat → Bool} {s l : Nat} : ∀ n d b, d + n = 3 → b + wsum F s l d < wsum F s l 4 → ∃ d' b', dgF F s l n d b = (d', b') ∧ d' < 4 ∧ b + wsum F s l d = wsum F s l d' + b' ∧ b' < wadd F s l d'
  | 0, d, b, hd, hb => by
    have : d = 3 := by omega
    subst this
    refine ⟨3, b, rfl, by decide, by omega, ?_⟩
    have : wsum F s l 4 = wsum F s l 3 + wadd F s l 3 := rfl
    omega
  | n + 1, d, b, hd, hb => by
    unfold dgF
    rw [if_pos (show d < 3 by omega)]
    by_cases h : b < wadd F s l d
    · rw [if_pos h]
      exact ⟨d, b, rfl, by omega, by omega, h⟩
    · rw [if_neg h]
      have e : wsum F s l (d + 1) = wsum F s l d + wadd F s l d := rfl
      obtain ⟨d', b', h1, h2, h3, h4⟩ := dgF_spec (F := F) (s := s) (l := l) n (d + 1) (b - wadd F s l d) (by omega) (by omega)
      exact ⟨d', b', h1, h2, by omega, h4⟩
theorem kth {F : Nat → Nat → Nat → Bool} : ∀ r, r ≤ 6 → ∀ l b dig, b < Wn F r l → ∃ n, n < 4 ^ r ∧ PB F r l n = true ∧ cnP (PB F r l) n = b ∧ (it (fun k p => dgS F (6 - r + k) p) r (b, dig, l)).2.1 = DGT r dig n
  | 0, _, l, b, dig, h => by
    have h : b < 1 := h
    exact ⟨0, by decide, rfl, by show 0 = b; omega, rfl⟩
  | r + 1, hr, l, b, dig, h => by
    have hw := wsum_4 (F := F) (s := 5 - r) (l := l) (by omega)
    rw [show 6 - (5 - r) = r + 1 by omega] at hw
    obtain ⟨d, b', h1, h2, h3, h4⟩ := dgF_spec (F := F) (s := 5 - r) (l := l) 3 0 b rfl (by rw [hw]; exact h)
    have hF : F (5 - r) l d = true ∧ b' < Wn F r d := by
      unfold wadd at h4
      by_cases hf : F (5 - r) l d = true
      · rw [if_pos hf, show 5 - (5 - r) = r by omega] at h4; exact ⟨hf, h4⟩
      · rw [if_neg hf] at h4; exact absurd h4 (Nat.not_lt_zero _)
    obtain ⟨n, n1, n2, n3, n4⟩ := kth r (by omega) d b' (dig * 10 + nI d + 1) hF.2
    refine ⟨d * 4 ^ r + n, ?_, ?_, ?_, ?_⟩
    · rw [Nat.pow_succ]
      have : (d + 1) * 4 ^ r ≤ 4 * 4 ^ r := Nat.mul_le_mul_right _ (by omega)
      rw [Nat.succ_mul] at this
      omega
    · rw [PB_blk n1, hF.1, n2]; rfl
    · rw [cnP_add, cnP_head (cnP_W F r) d, cnP_blk d n (by omega), if_pos hF.1, n3]
      have e : it (fun d v => v + (if F (5 - r) l d = true then Wn F r d else 0)) d 0 = wsum F (5 - r) l d := by
        unfold wsum
        refine it_congr d (fun k v _ => ?_)
        unfold wadd
        rw [show 5 - (5 - r) = r by omega]
      rw [e]
      have h3 : b = wsum F (5 - r) l d + b' := h3
      omega
    · rw [it_first]
      have e0 : dgS F (6 - (r + 1) + 0) (b, dig, l) = (b', dig * 10 + nI d + 1, d) := by
        unfold dgS
        rw [show 6 - (r + 1) + 0 = 5 - r by omega]
        show ((dgF F (5 - r) l 3 0 b).2, dig * 10 + nI (dgF F (5 - r) l 3 0 b).1 + 1, (dgF F (5 - r) l 3 0 b).1) = _
        rw [h1]
      rw [e0]
      have e1 : it (fun k p => dgS F (6 - (r + 1) + (k + 1)) p) r (b', dig * 10 + nI d + 1, d) = it (fun k p => dgS F (6 - r + k) p) r (b', dig * 10 + nI d + 1, d) := it_congr r (fun k p _ => by
        show dgS F (6 - (r + 1) + (k + 1)) p = dgS F (6 - r + k) p
        rw [show 6 - (r + 1) + (k + 1) = 6 - r + k by omega])
      rw [e1, n4]
      show _ = DGT r (dig * 10 + nI ((d * 4 ^ r + n) / 4 ^ r) + 1) ((d * 4 ^ r + n) % 4 ^ r)
      rw [show (d * 4 ^ r + n) / 4 ^ r = d by rw [Nat.mul_comm, Nat.mul_add_div (pos4 r), Nat.div_eq_of_lt n1, Nat.add_zero], show (d * 4 ^ r + n) % 4 ^ r = n by rw [Nat.mul_comm, Nat.mul_add_mod, Nat.mod_eq_of_lt n1]]
theorem digV_n {L : Nat} (hL : L < 4096) : digV (nI L) = DGT 6 0 L := by
  have c : ∀ v : Int32, 10 * v = v * 10 := fun v => Int32.mul_comm _ _
  show 10 * (10 * (10 * (10 * (10 * (10 * (0 : Int32) + doV (nI L) (nI 0) + 1) + doV (nI L) (nI 1) + 1) + doV (nI L) (nI 2) + 1) + doV (nI L) (nI 3) + 1) + doV (nI L) (nI 4) + 1) + doV (nI L) (nI 5) + 1 = _
  rw [doV_n hL (by decide), doV_n hL (by decide), doV_n hL (by decide), doV_n hL (by decide), doV_n hL (by decide), doV_n hL (by decide), c, c, c, c, c, c]
  have e0 : dN L 0 = L / 4 ^ 5 := by show L / 1024 % 4 = L / 1024; omega
  have e1 : dN L 1 = L % 4 ^ 5 / 4 ^ 4 := by show L / 256 % 4 = L % 1024 / 256; omega
  have e2 : dN L 2 = L % 4 ^ 5 % 4 ^ 4 / 4 ^ 3 := by show L / 64 % 4 = L % 1024 % 256 / 64; omega
  have e3 : dN L 3 = L % 4 ^ 5 % 4 ^ 4 % 4 ^ 3 / 4 ^ 2 := by show L / 16 % 4 = L % 1024 % 256 % 64 / 16; omega
  have e4 : dN L 4 = L % 4 ^ 5 % 4 ^ 4 % 4 ^ 3 % 4 ^ 2 / 4 ^ 1 := by show L / 4 % 4 = L % 1024 % 256 % 64 % 16 / 4; omega
  have e5 : dN L 5 = L % 4 ^ 5 % 4 ^ 4 % 4 ^ 3 % 4 ^ 2 % 4 ^ 1 / 4 ^ 0 := by show L / 1 % 4 = L % 1024 % 256 % 64 % 16 % 4 / 1; omega
  rw [e0, e1, e2, e3, e4, e5]
  rfl
theorem fit_it {R : Nat → Int32} {set : Int32} {F : Nat → Nat → Nat → Bool} (h : FitR R set F) (K : Int32) : ∀ n, n ≤ 4096 → it (fitF R set) n K = K - nI (cnP (PB F 6 0) n)
  | 0, _ => by show K = K - nI 0; rw [nI_0, Int32.sub_zero]
  | n + 1, hn => by
    rw [it_succ, fit_it h K n (by omega), cnP_s]
    unfold fitF
    by_cases hp : PB F 6 0 n = true
    · rw [if_pos ((h.pb (by omega)).mpr hp), if_pos hp, ← nI_add, Int32.sub_eq_add_neg, Int32.sub_eq_add_neg, Int32.neg_add, Int32.sub_eq_add_neg, Int32.add_assoc]; rfl
    · rw [if_neg (fun z => hp ((h.pb (by omega)).mp z)), if_neg hp, Nat.add_zero]
theorem fitV_y {R : Nat → Int32} {set : Int32} {F : Nat → Nat → Nat → Bool} (h : FitR R set F) {K : Nat} (hK : K < Wn F 6 0) : fitV R set (nI K) = (dgN F K 6).2.1 := by
  obtain ⟨L, h1, h2, h3, h4⟩ := kth (F := F) 6 (Nat.le_refl _) 0 K 0 hK
  have h1 : L < 4096 := h1
  have hz : ∀ n, n ≤ 4096 → (it (fitF R set) n (nI K) = 0 ↔ cnP (PB F 6 0) n = K) := fun n hn => by
    rw [fit_it h _ n hn]
    have hc := cnP_le (PB F 6 0) n
    have hk : K < 2 ^ 31 := Nat.lt_of_lt_of_le hK (Nat.le_trans (Wn_le6 F (Nat.le_refl 6) 0) (by decide))
    constructor
    · intro e
      have e2 : nI K = nI (cnP (PB F 6 0) n) := by
        have := congrArg (fun z => z + nI (cnP (PB F 6 0) n)) e
        simp only [Int32.sub_add_cancel, Int32.zero_add] at this
        exact this
      exact ((nI_eq hk (by omega)).mp e2).symm
    · intro e
      rw [e, Int32.sub_self]
  have hd : (it (fun k p => dgS F (6 - 6 + k) p) 6 (K, 0, 0)).2.1 = (dgN F K 6).2.1 := by
    unfold dgN
    rw [it_congr (f := fun k p => dgS F (6 - 6 + k) p) (g := dgS F) 6 (fun k p _ => by show dgS F (0 + k) p = _; rw [Nat.zero_add])]
  rw [← hd, h4, ← digV_n h1]
  refine fitV_some h1 (fun j hj => ?_) (fitP_c ((h.pb h1).mpr h2) ((hz L (by omega)).mpr h3))
  by_cases hp : R (nI j).toNatClampNeg &&& set = set
  · refine fitP_b (fun z => ?_)
    have e := (hz j (by omega)).mp z
    have := cnP_lt (P := PB F 6 0) hj ((h.pb (by omega)).mp hp)
    omega
  · exact fitP_a hp
theorem fitV_n {R : Nat → Int32} {set : Int32} {F : Nat → Nat → Nat → Bool} (h : FitR R set F) {K : Nat} (hK : Wn F 6 0 ≤ K) (hK31 : K < 2 ^ 31) : fitV R set (nI K) = -1 := by
  refine fitV_none (fun j hj => ?_)
  by_cases hp : R (nI j).toNatClampNeg &&& set = set
  · refine fitP_b (fun z => ?_)
    rw [fit_it h _ j (by omega)] at z
    have hc := cnP_le (PB F 6 0) j
    have e2 : nI K = nI (cnP (PB F 6 0) j) := by
      have := congrArg (fun z => z + nI (cnP (PB F 6 0) j)) z
      simp only [Int32.sub_add_cancel, Int32.zero_add] at this
      exact this
    have e3 := (nI_eq hK31 (by omega)).mp e2
    have h4 := cnP_lt (P := PB F 6 0) hj ((h.pb (by omega)).mp hp)
    have h5 := cnP_W F 6 0
    rw [show (4 : Nat) ^ 6 = 4096 from by decide] at h5
    omega
  · exact fitP_a hp
