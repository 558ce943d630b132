/-! ===== lives by number: what fits, how many ===== -/
theorem it_first {α : Type} (f : Nat → α → α) (x : α) (n : Nat) : it f (n + 1) x = it (fun k p => f (k + 1) p) n (f 0 x) := by
  rw [Nat.add_comm n 1, it_app f 1 x n]
  refine it_congr n (fun k p _ => ?_)
  rw [Nat.add_comm]
/-- how many below n are so -/
def cnP (P : Nat → Bool) (n : Nat) : Nat := it (fun k c => c + (if P k = true then 1 else 0)) n 0
theorem cnP_s (P : Nat → Bool) (n : Nat) : cnP P (n + 1) = cnP P n + (if P n = true then 1 else 0) := rfl
theorem cnP_add (P : Nat → Bool) (a : Nat) : ∀ b, cnP P (a + b) = cnP P a + cnP (fun k => P (a + k)) b
  | 0 => rfl
  | b + 1 => by
    rw [← Nat.add_assoc, cnP_s, cnP_s, cnP_add P a b, Nat.add_assoc]
theorem cnP_congr {P Q : Nat → Bool} : ∀ n, (∀ k, k < n → P k = Q k) → cnP P n = cnP Q n
  | 0, _ => rfl
  | n + 1, h => by rw [cnP_s, cnP_s, cnP_congr n (fun k hk => h k (by omega)), h n (by omega)]
theorem cnP_false : ∀ n, cnP (fun _ => false) n = 0
  | 0 => rfl
  | n + 1 => by rw [cnP_s, cnP_false n]; rfl
theorem cnP_le (P : Nat → Bool) : ∀ n, cnP P n ≤ n
  | 0 => Nat.le_refl _
  | n + 1 => by
    rw [cnP_s]
    have := cnP_le P n
    split <;> omega
theorem cnP_mono {P : Nat → Bool} {a b : Nat} (h : a ≤ b) : cnP P a ≤ cnP P b := by
  obtain ⟨k, rfl⟩ := Nat.le.dest h
  rw [cnP_add]; omega
theorem cnP_lt {P : Nat → Bool} {a b : Nat} (h : a < b) (hp : P a = true) : cnP P a < cnP P b := by
  have h1 := cnP_mono (P := P) (show a + 1 ≤ b from h)
  rw [cnP_s, if_pos hp] at h1
  omega
theorem cnP_pos {P : Nat → Bool} : ∀ {n : Nat}, 0 < cnP P n → ∃ k, k < n ∧ P k = true
  | 0, h => absurd h (Nat.lt_irrefl 0)
  | n + 1, h => by
    rw [cnP_s] at h
    by_cases hp : P n = true
    · exact ⟨n, by omega, hp⟩
    · rw [if_neg hp] at h
      obtain ⟨k, hk, h2⟩ := cnP_pos (n := n) (by omega)
      exact ⟨k, by omega, h2⟩
/-- lives on: r steps are left, the doing ahead is l; n spells them, the first one highest -/
def PB (F : Nat → Nat → Nat → Bool) : Nat → Nat → Nat → Bool
  | 0, _, _ => true
  | r + 1, l, n => F (5 - r) l (n / 4 ^ r) && PB F r (n / 4 ^ r) (n % 4 ^ r)
theorem pos4 (r : Nat) : 0 < 4 ^ r := Nat.pow_pos (by decide)
theorem PB_blk {F : Nat → Nat → Nat → Bool} {r l d k : Nat} (hk : k < 4 ^ r) : PB F (r + 1) l (d * 4 ^ r + k) = (F (5 - r) l d && PB F r d k) := by
  have h1 : (d * 4 ^ r + k) / 4 ^ r = d := by
    rw [Nat.mul_comm, Nat.mul_add_div (pos4 r), Nat.div_eq_of_lt hk, Nat.add_zero]
  have h2 : (d * 4 ^ r + k) % 4 ^ r = k := by
    rw [Nat.mul_comm, Nat.mul_add_mod, Nat.mod_eq_of_lt hk]
  show (F (5 - r) l ((d * 4 ^ r + k) / 4 ^ r) && PB F r ((d * 4 ^ r + k) / 4 ^ r) ((d * 4 ^ r + k) % 4 ^ r)) = _
  rw [h1, h2]
theorem cnP_blk {F : Nat → Nat → Nat → Bool} {r l : Nat} (d m : Nat) (hm : m ≤ 4 ^ r) : cnP (fun k => PB F (r + 1) l (d * 4 ^ r + k)) m = if F (5 - r) l d = true then cnP (PB F r d) m else 0 := by
  have e : cnP (fun k => PB F (r + 1) l (d * 4 ^ r + k)) m = cnP (fun k => F (5 - r) l d && PB F r d k) m := cnP_congr m (fun k hk => PB_blk (by omega))
  rw [e]
  cases hF : F (5 - r) l d with
  | true => rw [if_pos rfl]; exact cnP_congr m (fun k _ => Bool.true_and _)
  | false => rw [if_neg Bool.false_ne_true]; exact (cnP_congr m (fun k _ => Bool.false_and _)).trans (cnP_false m)
/-- before the block d: the blocks ahead -/
theorem cnP_head {F : Nat → Nat → Nat → Bool} {r l : Nat} (hW : ∀ d, cnP (PB F r d) (4 ^ r) = Wn F r d) : ∀ d, cnP (PB F (r + 1) l) (d * 4 ^ r) = it (fun d v => v + (if F (5 - r) l d = true then Wn F r d else 0)) d 0
  | 0 => by rw [Nat.zero_mul]; rfl
  | d + 1 => by
    rw [Nat.succ_mul, cnP_add, cnP_head hW d, it_succ, cnP_blk d _ (Nat.le_refl _), hW]
theorem cnP_W (F : Nat → Nat → Nat → Bool) : ∀ r l, cnP (PB F r l) (4 ^ r) = Wn F r l
  | 0, l => rfl
  | r + 1, l => by
    have h := cnP_head (F := F) (r := r) (l := l) (cnP_W F r) 4
    rw [Nat.pow_succ, Nat.mul_comm, h]
    rfl
def dN (L s : Nat) : Nat := L / 4 ^ (5 - s) % 4
def pN (L s : Nat) : Nat := if s = 0 then 0 else dN L (s - 1)
theorem dN_lt (L s : Nat) : dN L s < 4 := Nat.mod_lt _ (by decide)
theorem pN_lt (L s : Nat) : pN L s < 4 := by unfold pN; split; decide; exact dN_lt _ _
def LPo (F : Nat → Nat → Nat → Bool) (L : Nat) : Prop := ∀ s, s < 6 → F s (pN L s) (dN L s) = true
theorem LPo_PB {F : Nat → Nat → Nat → Bool} {L : Nat} (hL : L < 4096) : PB F 6 0 L = true ↔ LPo F L := by
  have e0 : dN L 0 = L / 4 ^ 5 := by show L / 1024 % 4 = L / 1024; omega
  have e1 : dN L 1 = L % 4 ^ 5 / 4 ^ 4 := by show L / 256 % 4 = L % 1024 / 256; omega
  have e2 : dN L 2 = L % 4 ^ 5 % 4 ^ 4 / 4 ^ 3 := by show L / 64 % 4 = L % 1024 % 256 / 64; omega
  have e3 : dN L 3 = L % 4 ^ 5 % 4 ^ 4 % 4 ^ 3 / 4 ^ 2 := by show L / 16 % 4 = L % 1024 % 256 % 64 / 16; omega
  have e4 : dN L 4 = L % 4 ^ 5 % 4 ^ 4 % 4 ^ 3 % 4 ^ 2 / 4 ^ 1 := by show L / 4 % 4 = L % 1024 % 256 % 64 % 16 / 4; omega
  have e5 : dN L 5 = L % 4 ^ 5 % 4 ^ 4 % 4 ^ 3 % 4 ^ 2 % 4 ^ 1 / 4 ^ 0 := by show L / 1 % 4 = L % 1024 % 256 % 64 % 16 % 4 / 1; omega
  have hp : PB F 6 0 L = (F 0 0 (dN L 0) && (F 1 (dN L 0) (dN L 1) && (F 2 (dN L 1) (dN L 2) && (F 3 (dN L 2) (dN L 3) && (F 4 (dN L 3) (dN L 4) && (F 5 (dN L 4) (dN L 5) && true)))))) := by
    rw [e0, e1, e2, e3, e4, e5]; rfl
  rw [hp]
  simp only [Bool.and_eq_true, Bool.and_true]
  constructor
  · rintro ⟨h0, h1, h2, h3, h4, h5⟩ s hs
    rcases six6 hs with rfl | rfl | rfl | rfl | rfl | rfl
    · exact h0
    · exact h1
    · exact h2
    · exact h3
    · exact h4
    · exact h5
  · intro h
    exact ⟨h 0 (by decide), h 1 (by decide), h 2 (by decide), h 3 (by decide), h 4 (by decide), h 5 (by decide)⟩
/-- a number that spells given doings -/
def nmb (e : Nat → Nat) : Nat := ((((e 0 * 4 + e 1) * 4 + e 2) * 4 + e 3) * 4 + e 4) * 4 + e 5
theorem nmb_lt {e : Nat → Nat} (h : ∀ s, s < 6 → e s < 4) : nmb e < 4096 := by
  have h0 := h 0 (by decide); have h1 := h 1 (by decide); have h2 := h 2 (by decide); have h3 := h 3 (by decide); have h4 := h 4 (by decide); have h5 := h 5 (by decide)
  unfold nmb; omega
theorem nmb_at {e : Nat → Nat} (h : ∀ s, s < 6 → e s < 4) : ∀ s, s < 6 → dN (nmb e) s = e s := fun s hs => by
  have h0 := h 0 (by decide); have h1 := h 1 (by decide); have h2 := h 2 (by decide); have h3 := h 3 (by decide); have h4 := h 4 (by decide); have h5 := h 5 (by decide)
  rcases six6 hs with rfl | rfl | rfl | rfl | rfl | rfl
  · show nmb e / 1024 % 4 = e 0; unfold nmb; omega
  · show nmb e / 256 % 4 = e 1; unfold nmb; omega
  · show nmb e / 64 % 4 = e 2; unfold nmb; omega
  · show nmb e / 16 % 4 = e 3; unfold nmb; omega
  · show nmb e / 4 % 4 = e 4; unfold nmb; omega
  · show nmb e / 1 % 4 = e 5; unfold nmb; omega
theorem nmb_p {e : Nat → Nat} (h : ∀ s, s < 6 → e s < 4) {s : Nat} (hs : s < 6) : pN (nmb e) s = ldo e s := by
  cases s with
  | zero => rfl
  | succ s => exact nmb_at h s (by omega)
theorem nmb_LP {F : Nat → Nat → Nat → Bool} {e : Nat → Nat} (h : ∀ s, s < 6 → e s < 4) : LPo F (nmb e) ↔ ∀ s, s < 6 → F s (ldo e s) (e s) = true :=
  ⟨fun q s hs => by have := q s hs; rw [nmb_at h s hs, nmb_p h hs] at this; exact this, fun q s hs => by rw [nmb_at h s hs, nmb_p h hs]; exact q s hs⟩
theorem pN_ldo (L s : Nat) : pN L s = ldo (dN L) s := by cases s <;> rfl
/-- the reference's reading of a life's number -/
theorem doV_n {L s : Nat} (hL : L < 4096) (hs : s < 6) : doV (nI L) (nI s) = nI (dN L s) := by
  unfold doV dN
  have e3 : ∀ n, n < 2 ^ 32 → nI n &&& 3 = nI (n % 4) := fun n hn => pk_andN hn 2 (by decide)
  rcases six6 hs with rfl | rfl | rfl | rfl | rfl | rfl
  · rw [pk_shrN (n := L) (by omega) _ 10 (by decide)]; exact e3 _ (by omega)
  · rw [pk_shrN (n := L) (by omega) _ 8 (by decide)]; exact e3 _ (by omega)
  · rw [pk_shrN (n := L) (by omega) _ 6 (by decide)]; exact e3 _ (by omega)
  · rw [pk_shrN (n := L) (by omega) _ 4 (by decide)]; exact e3 _ (by omega)
  · rw [pk_shrN (n := L) (by omega) _ 2 (by decide)]; exact e3 _ (by omega)
  · rw [pk_shrN (n := L) (by omega) _ 0 (by decide)]; exact e3 _ (by omega)
theorem lastV_n {L s : Nat} (hL : L < 4096) (hs : s < 6) : lastV (nI L) (nI s) = nI (pN L s) := by
  unfold lastV pN
  by_cases h : s = 0
  · subst h; rfl
  · rw [if_neg h, if_neg (fun z => h ((nI_eq (by omega) (by decide)).mp (z.trans nI_0.symm))), show nI s - 1 = nI (s - 1) from nI_m1 (by omega)]
    exact doV_n hL (by omega)
/-- what is so of a life, by the reference's row and by the class's places -/
def FitR (R : Nat → Int32) (set : Int32) (F : Nat → Nat → Nat → Bool) : Prop := ∀ L, L < 4096 → (R L &&& set = set ↔ LPo F L)
theorem FitR.pb {R : Nat → Int32} {set : Int32} {F : Nat → Nat → Nat → Bool} (h : FitR R set F) {L : Nat} (hL : L < 4096) : (R (nI L).toNatClampNeg &&& set = set) ↔ PB F 6 0 L = true := by
  rw [nI_clamp (by omega), h L hL, LPo_PB hL]
theorem livV_W {R : Nat → Int32} {set : Int32} {F : Nat → Nat → Nat → Bool} (h : FitR R set F) : livV R set = nI (Wn F 6 0) := by
  have key : ∀ n, n ≤ 4096 → it (livF R set) n 0 = nI (cnP (PB F 6 0) n) := by
    intro n
    induction n with
    | zero => intro _; exact nI_0.symm
    | succ n ih =>
      intro hn
      rw [it_succ, ih (by omega), cnP_s, ← nI_add]
      unfold livF
      congr 1
      by_cases hp : PB F 6 0 n = true
      · rw [if_pos hp, if_pos ((h.pb (by omega)).mpr hp)]; rfl
      · rw [if_neg hp, if_neg (fun z => hp ((h.pb (by omega)).mp z))]; rfl
  have h2 := key 4096 (Nat.le_refl _)
  rw [show (4096 : Nat) = 4 ^ 6 from by decide, cnP_W] at h2
  exact h2
