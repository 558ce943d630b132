/-! ===== tokens of a text, and the reference's heap while it reads ===== -/
/-- the reference's heap with the reader's fields apart -/
def hT (g : Nat → Int32) (a : Nat → Nat → Int32) (fr n e tk p : Int32) (w : Int64) (op bd fl : Int32) : PH :=
  [pO 8 [.int (g 0), .ref 1, .ref 2, .int (g 3), .int (g 4), .ref 3, .int (g 6), .int (g 7), .ref 4, .ref 5, .ref 6, .int (g 11), .int (g 12), .int (g 13), .int (g 14), .int (g 15), .int (g 16), .int (g 17), .int fr, .int n, .int e, .int tk, .int p, .long w, .int op, .int bd, .int fl, .ref 7, .ref 8, .ref 9, .ref 10, .ref 11, .ref 12, .ref 13, .int (g 34), .int (g 35), .int (g 36), .ref 14, .ref 15, .ref 16, .ref 17],
   pI 960 (a 1), pI 6 (a 2), pI 160 (a 3), pI 6 (a 4), pI 6 (a 5), pI 18 (a 6), pI 576 (a 7), pI 4096 (a 8), pI 96 (a 9), pI 4096 (a 10), pI 6 (a 11), pI 6 (a 12), pI 18 (a 13), pZ 4 (a 14), pI 4 (a 15), pI 4 (a 16), pI 160 (a 17)]
/-- byte j of a text of n bytes -/
def Bt (f : Nat → Int32) (fr n : Nat) (j : Nat) : Int32 := if j < n then f (fr + j) else -1
/-- from p on, as long as P holds (bounded by k) -/
def adv (P : Int32 → Bool) (B : Nat → Int32) : Nat → Nat → Nat
  | 0, p => p
  | k + 1, p => bif P (B p) then adv P B k (p + 1) else p
def isBl (b : Int32) : Bool := decide (b = 32 ∨ b = 10)
def isLt (b : Int32) : Bool := decide (97 ≤ b ∧ b ≤ 122)
def isDg (b : Int32) : Bool := decide (48 ≤ b ∧ b ≤ 57)
theorem adv_ge (P : Int32 → Bool) (B : Nat → Int32) : ∀ k p, p ≤ adv P B k p
  | 0, p => Nat.le_refl p
  | k + 1, p => by
    unfold adv
    cases P (B p) with
    | false => exact Nat.le_refl p
    | true => exact Nat.le_trans (Nat.le_succ p) (adv_ge P B k (p + 1))
theorem adv_le {P : Int32 → Bool} {B : Nat → Int32} {n : Nat} (hB : ∀ j, n ≤ j → P (B j) = false) : ∀ k p, p ≤ n → adv P B k p ≤ n
  | 0, p, h => h
  | k + 1, p, h => by
    unfold adv
    cases hp : P (B p) with
    | false => exact h
    | true =>
      refine adv_le hB k (p + 1) ?_
      rcases Nat.lt_or_ge p n with q | q
      · exact q
      · rw [hB p q] at hp; cases hp
theorem adv_stop {P : Int32 → Bool} {B : Nat → Int32} {n : Nat} (hB : ∀ j, n ≤ j → P (B j) = false) : ∀ k p, p ≤ n → n ≤ p + k → P (B (adv P B k p)) = false
  | 0, p, h, hk => hB _ (by unfold adv; omega)
  | k + 1, p, h, hk => by
    unfold adv
    cases hp : P (B p) with
    | false => exact hp
    | true =>
      refine adv_stop hB k (p + 1) ?_ (by omega)
      rcases Nat.lt_or_ge p n with q | q
      · exact q
      · rw [hB p q] at hp; cases hp
theorem adv_all {P : Int32 → Bool} {B : Nat → Int32} : ∀ k p j, p ≤ j → j < adv P B k p → P (B j) = true
  | 0, p, j, h1, h2 => by unfold adv at h2; omega
  | k + 1, p, j, h1, h2 => by
    unfold adv at h2
    cases hp : P (B p) with
    | false => rw [hp] at h2; exact absurd h2 (by simpa using h1)
    | true =>
      rw [hp] at h2
      rcases Nat.eq_or_lt_of_le h1 with q | q
      · rw [← q]; exact hp
      · exact adv_all k (p + 1) j q h2
theorem adv_self {P : Int32 → Bool} {B : Nat → Int32} {k p : Nat} (h : P (B p) = false) : adv P B k p = p := by
  cases k with
  | zero => rfl
  | succ k => unfold adv; rw [h]; rfl
theorem adv_step {P : Int32 → Bool} {B : Nat → Int32} {k p : Nat} (h : P (B p) = true) : adv P B (k + 1) p = adv P B k (p + 1) := by
  conv => lhs; unfold adv; rw [h]
  rfl
/-- a longer bound changes nothing behind the end -/
theorem adv_more {P : Int32 → Bool} {B : Nat → Int32} {n : Nat} (hB : ∀ j, n ≤ j → P (B j) = false) : ∀ k m p, p ≤ n → n ≤ p + k → k ≤ m → adv P B m p = adv P B k p
  | 0, m, p, h, hk, _ => by rw [adv_self (hB p (by omega))]; rfl
  | k + 1, 0, p, _, _, hm => absurd hm (by omega)
  | k + 1, m + 1, p, h, hk, hm => by
    unfold adv
    cases hp : P (B p) with
    | false => rfl
    | true =>
      refine adv_more hB k m (p + 1) ?_ (by omega) (by omega)
      rcases Nat.lt_or_ge p n with q | q
      · exact q
      · rw [hB p q] at hp; cases hp
/-- the token that begins at p: where it ends, its kind (the reference's), its sign (the class's) -/
def skp (B : Nat → Int32) (p : Nat) : Nat := adv isBl B 200 p
def eoL (B : Nat → Int32) (p : Nat) : Nat := adv isLt B 200 p
def eoD (B : Nat → Int32) (p : Nat) : Nat := adv isDg B 200 p
def sgC (b : Int32) : Int32 := if b = 40 then -13 else if b = 41 then -14 else if b = 59 then -15 else if b = 43 then -16 else if b = 45 then -17 else if b = 42 then -18 else if b = 60 then -19 else if b = 61 then -20 else -23
def num (B : Nat → Int32) (p k : Nat) : Int32 := it (fun i x => x * 10 + B (p + i) - 48) k 0
def isWd (cs : List Int32) (B : Nat → Int32) (p e : Nat) : Bool := decide (e = p + cs.length) && (List.range cs.length).all (fun i => decide (B (p + i) = cs.getD i 0))
def wds : List (List Int32 × Int32) := [([100, 111, 105, 110, 103], -1), ([115, 116, 101, 112], -2), ([110, 117, 109, 98, 101, 114], -3), ([108, 97, 115, 116], -4), ([115, 101, 101, 110], -5), ([97, 103, 101], -6), ([115, 104, 97, 109, 101, 115], -7), ([99, 111, 115, 116, 115], -8), ([119, 111, 114, 116, 104], -9), ([111, 114], -10), ([97, 110, 100], -11), ([110, 111, 116], -12)]
def wC (B : Nat → Int32) (p e : Nat) : Int32 := match wds.find? (fun q => isWd q.1 B p e) with
  | some q => q.2
  | none => -23
def kd (B : Nat → Int32) (p : Nat) : Int32 := if B p < 0 then 0 else if isLt (B p) = true then 1 else if isDg (B p) = true then (if p + 4 < eoD B p then 4 else 2) else if sgC (B p) = -23 then 4 else 3
def en (B : Nat → Int32) (p : Nat) : Nat := if B p < 0 then p else if isLt (B p) = true then eoL B p else if isDg (B p) = true then eoD B p else if sgC (B p) = -23 then p else p + 1
def sg (B : Nat → Int32) (p : Nat) : Int32 := if B p < 0 then -22 else if isLt (B p) = true then wC B p (eoL B p) else if isDg (B p) = true then (if p + 4 < eoD B p then -23 else num B p (eoD B p - p)) else sgC (B p)
def nx (B : Nat → Int32) (p : Nat) : Nat := skp B (en B p)
/-- what the reference keeps of the token's worth, where it is asked -/
def wOK (B : Nat → Int32) (p : Nat) (w : Int64) : Prop := (kd B p = 2 → w = (sg B p).toInt64) ∧ (kd B p = 3 → w = (B p).toInt64)
/-- a text that is read: where it lies, that its bytes are bytes -/
def TxOK (a : Nat → Nat → Int32) (fr n : Nat) : Prop := fr + n ≤ 960 ∧ n ≤ 160 ∧ ∀ j, j < n → 0 ≤ a 1 (fr + j) ∧ a 1 (fr + j) ≤ 255
theorem Bt_out {f : Nat → Int32} {fr n j : Nat} (h : n ≤ j) : Bt f fr n j = -1 := if_neg (by omega)
theorem Bt_in {f : Nat → Int32} {fr n j : Nat} (h : j < n) : Bt f fr n j = f (fr + j) := if_pos h
theorem bl_out {f : Nat → Int32} {fr n : Nat} : ∀ j, n ≤ j → isBl (Bt f fr n j) = false := fun j h => by rw [Bt_out h]; decide
theorem lt_out {f : Nat → Int32} {fr n : Nat} : ∀ j, n ≤ j → isLt (Bt f fr n j) = false := fun j h => by rw [Bt_out h]; decide
theorem dg_out {f : Nat → Int32} {fr n : Nat} : ∀ j, n ≤ j → isDg (Bt f fr n j) = false := fun j h => by rw [Bt_out h]; decide
theorem skp_le {f : Nat → Int32} {fr n p : Nat} (h : p ≤ n) : skp (Bt f fr n) p ≤ n := adv_le bl_out _ _ h
theorem en_le {f : Nat → Int32} {fr n p : Nat} (h : p ≤ n) : en (Bt f fr n) p ≤ n := by
  unfold en
  split
  · exact h
  · next hb =>
    have hp : p < n := by
      rcases Nat.lt_or_ge p n with q | q
      · exact q
      · exact absurd (by rw [Bt_out q]; decide) hb
    split
    · exact adv_le lt_out _ _ h
    · split
      · exact adv_le dg_out _ _ h
      · split
        · exact h
        · exact hp
theorem nx_le {f : Nat → Int32} {fr n p : Nat} (h : p ≤ n) : nx (Bt f fr n) p ≤ n := skp_le (en_le h)
/-- the bytes of the reference, by the reader's fields -/
theorem e_byteT {g : Nat → Int32} {a : Nat → Nat → Int32} {fr n : Nat} {e tk p : Int32} {w : Int64} {op bd fl : Int32} (hT0 : TxOK a fr n) (j : Nat) (hj : j ≤ 400) :
    P0 0 0 0 mX11_byteAt (0, ent 2 [.ref 0, .int (nI j)], [], hT g a (nI fr) (nI n) e tk p w op bd fl) (fun r h' => r = some (.int (Bt (a 1) fr n j)) ∧ h' = hT g a (nI fr) (nI n) e tk p w op bd fl) := by
  obtain ⟨h1, h2, h3⟩ := hT0
  have h := e_X11_byteAt (g := upd (upd (upd (upd (upd (upd (upd (upd g 18 (nI fr)) 19 (nI n)) 20 e) 21 tk) 22 p) 24 op) 25 bd) 26 fl) (w := w) (a := a) (nI j) (fun hlt => by
    have hlt : j < n := (nI_ltI (by omega) (by omega)).mp hlt
    show vp_in (nI fr + nI j) 960
    rw [nI_add]
    exact vp_in_nI (by omega) (by decide))
  have e1 : (if nI j < nI n then a 1 (nI fr + nI j).toNatClampNeg else -1) = Bt (a 1) fr n j := by
    unfold Bt
    by_cases hlt : j < n
    · rw [if_pos hlt, if_pos ((nI_ltI (by omega) (by omega)).mpr hlt), nI_add, nI_clamp (by omega)]
    · rw [if_neg hlt, if_neg (fun z => hlt ((nI_ltI (by omega) (by omega)).mp z))]
  have h : P0 0 0 0 mX11_byteAt (0, ent 2 [.ref 0, .int (nI j)], [], hT g a (nI fr) (nI n) e tk p w op bd fl) (fun r h' => r = some (.int (if nI j < nI n then a 1 (nI fr + nI j).toNatClampNeg else -1)) ∧ h' = hT g a (nI fr) (nI n) e tk p w op bd fl) := h
  rw [e1] at h
  exact h

theorem isWd_iff {cs : List Int32} {B : Nat → Int32} {p e : Nat} : isWd cs B p e = true ↔ e = p + cs.length ∧ ∀ i, i < cs.length → B (p + i) = cs.getD i 0 := by
  unfold isWd
  rw [Bool.and_eq_true, decide_eq_true_eq, List.all_eq_true]
  constructor
  · rintro ⟨h1, h2⟩
    exact ⟨h1, fun i hi => by simpa using h2 i (List.mem_range.mpr hi)⟩
  · rintro ⟨h1, h2⟩
    exact ⟨h1, fun i hi => by simpa using h2 i (List.mem_range.mp hi)⟩
theorem isWd_uniq {cs ds : List Int32} {B : Nat → Int32} {p e : Nat} (h1 : isWd cs B p e = true) (h2 : isWd ds B p e = true) : cs = ds := by
  obtain ⟨a1, a2⟩ := isWd_iff.mp h1
  obtain ⟨b1, b2⟩ := isWd_iff.mp h2
  have hl : cs.length = ds.length := by omega
  apply List.ext_getElem hl
  intro i g1 g2
  have e1 := a2 i g1
  have e2 := b2 i g2
  rw [e1] at e2
  simpa [List.getD, g1, g2] using e2
theorem wds_code : ∀ x ∈ wds, ∀ y ∈ wds, x.2 = y.2 → x = y := by decide +kernel
theorem wds_word : ∀ x ∈ wds, ∀ y ∈ wds, x.1 = y.1 → x = y := by decide +kernel
theorem wds_rng : ∀ x ∈ wds, x.2 ≠ -23 ∧ x.2 ≤ -1 ∧ -12 ≤ x.2 := by decide +kernel
theorem wC_iff {cs : List Int32} {code : Int32} (hm : (cs, code) ∈ wds) (B : Nat → Int32) (p e : Nat) : wC B p e = code ↔ isWd cs B p e = true := by
  unfold wC
  constructor
  · intro h
    split at h
    · next q hq =>
      have h1 := List.mem_of_find?_eq_some hq
      have h2 := List.find?_some hq
      have := wds_code _ h1 _ hm h
      rw [this] at h2
      exact h2
    · next hq => exact absurd h.symm (wds_rng _ hm).1
  · intro h
    split
    · next q hq =>
      have h1 := List.mem_of_find?_eq_some hq
      have h2 := List.find?_some hq
      have := wds_word _ h1 _ hm (isWd_uniq h2 h)
      rw [this]
    · next hq => exact absurd h (by simpa using List.find?_eq_none.mp hq _ hm)
theorem wC_rng (B : Nat → Int32) (p e : Nat) : wC B p e = -23 ∨ (wC B p e ≤ -1 ∧ -12 ≤ wC B p e) := by
  unfold wC
  split
  · next q hq => exact Or.inr (wds_rng _ (List.mem_of_find?_eq_some hq)).2
  · exact Or.inl rfl
