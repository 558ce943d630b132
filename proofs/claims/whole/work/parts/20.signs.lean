/-! ===== signs and words, as the reference asks for them ===== -/
def signs : List (Int32 × Int32) := [(40, -13), (41, -14), (59, -15), (43, -16), (45, -17), (42, -18), (60, -19), (61, -20)]
theorem sgC_mem : ∀ x ∈ signs, sgC x.1 = x.2 := by decide +kernel
theorem sgC_rng (b : Int32) : sgC b = -23 ∨ (b, sgC b) ∈ signs := by
  unfold sgC
  repeat' split
  all_goals first | (left; rfl) | (right; simp only [signs]; subst_vars; decide)
theorem signs_code : ∀ x ∈ signs, ∀ y ∈ signs, x.2 = y.2 → x = y := by decide +kernel
theorem signs_rng : ∀ x ∈ signs, x.2 ≤ -13 ∧ -20 ≤ x.2 ∧ isLt x.1 = false ∧ isDg x.1 = false ∧ ¬ x.1 < 0 := by decide +kernel
theorem num_nonneg {B : Nat → Int32} {p : Nat} (h : ¬ p + 4 < eoD B p) : 0 ≤ num B p (eoD B p - p) ∧ num B p (eoD B p - p) ≤ 9999 := by
  have hge := adv_ge isDg B 200 p
  obtain ⟨v, h1, h2, -⟩ := num_nat B p (eoD B p - p) (by unfold eoD at h ⊢; omega) (fun i hi => adv_all 200 p (p + i) (by omega) (by unfold eoD at hi; omega))
  have hv : v < 10000 := Nat.lt_of_lt_of_le h1 (Nat.le_trans (Nat.pow_le_pow_right (by decide) (show eoD B p - p ≤ 4 by unfold eoD at h ⊢; omega)) (by decide))
  rw [h2]
  exact ⟨nI_pos' (by omega), (nI_leI (b := 9999) (by omega) (by decide)).mpr (by omega)⟩
theorem sign_iff {B : Nat → Int32} {p : Nat} {w : Int64} (hw : wOK B p w) {c code : Int32} (hm : (c, code) ∈ signs) : (kd B p = 3 ∧ w = c.toInt64) ↔ sg B p = code := by
  have hr := signs_rng _ hm
  have hr1 : code ≤ -13 := hr.1
  have hr2 : -20 ≤ code := hr.2.1
  constructor
  · rintro ⟨h1, h2⟩
    have h3 := hw.2 h1
    have hb : B p = c := (i64_eq _ _).mp (h3.symm.trans h2)
    unfold sg
    rw [hb, if_neg hr.2.2.2.2, if_neg (by rw [hr.2.2.1]; decide), if_neg (by rw [hr.2.2.2.1]; decide)]
    exact sgC_mem _ hm
  · intro h
    unfold sg at h
    split at h
    · rw [← h] at hr2; exact absurd hr2 (by decide)
    · next h0 =>
      split at h
      · rcases wC_rng B p (eoL B p) with q | q
        · rw [← h, q] at hr2; exact absurd hr2 (by decide)
        · rw [← h] at hr1; exact absurd (Int32.le_trans q.2 hr1) (by decide)
      · next h1 =>
        split at h
        · next h2 =>
          split at h
          · rw [← h] at hr2; exact absurd hr2 (by decide)
          · next h3 =>
            have := (num_nonneg h3).1
            rw [h] at this
            exact absurd (Int32.le_trans this hr1) (by decide)
        · next h2 =>
          rcases sgC_rng (B p) with q | q
          · rw [q] at h; rw [← h] at hr2; exact absurd hr2 (by decide)
          · have := signs_code _ q _ hm h
            have hb : B p = c := congrArg Prod.fst this
            have hk : kd B p = 3 := by
              simp only [kd, if_neg h0, if_neg h1, if_neg h2]
              rw [if_neg (by rw [h]; intro z; rw [z] at hr2; exact absurd hr2 (by decide))]
            exact ⟨hk, by rw [hw.2 hk, hb]⟩
theorem kd_word (B : Nat → Int32) (p : Nat) : kd B p = 1 ↔ (¬ B p < 0 ∧ isLt (B p) = true) := by
  unfold kd
  split
  · next h => simp [h]
  · next h =>
    split
    · next h1 => simp [h, h1]
    · next h1 =>
      split
      · split <;> simp [h1]
      · split <;> simp [h1]
theorem word_iff {B : Nat → Int32} {p : Nat} {cs : List Int32} {code : Int32} (hm : (cs, code) ∈ wds) : (kd B p = 1 ∧ isWd cs B p (en B p) = true) ↔ sg B p = code := by
  have hr := wds_rng _ hm
  have hr1 : code ≤ -1 := hr.2.1
  have hr2 : -12 ≤ code := hr.2.2
  constructor
  · rintro ⟨h1, h2⟩
    obtain ⟨a1, a2⟩ := (kd_word B p).mp h1
    have he : en B p = eoL B p := by simp [en, a1, a2]
    rw [he] at h2
    simp only [sg, if_neg a1, if_pos a2]
    exact (wC_iff hm B p _).mpr h2
  · intro h
    have h0 := h
    unfold sg at h
    split at h
    · rw [← h] at hr2; exact absurd hr2 (by decide)
    · next a1 =>
      split at h
      · next a2 =>
        have he : en B p = eoL B p := by simp [en, a1, a2]
        exact ⟨(kd_word B p).mpr ⟨a1, a2⟩, by rw [he]; exact (wC_iff hm B p _).mp h⟩
      · split at h
        · split at h
          · rw [← h] at hr2; exact absurd hr2 (by decide)
          · next h3 =>
            have := (num_nonneg h3).1
            rw [h] at this
            exact absurd (Int32.le_trans this hr1) (by decide)
        · rcases sgC_rng (B p) with q | q
          · rw [q] at h; rw [← h] at hr2; exact absurd hr2 (by decide)
          · have := (signs_rng _ q).1
            rw [show (B p, sgC (B p)).2 = code from h] at this
            exact absurd (Int32.le_trans hr2 this) (by decide)
/-- the eight letters that the reference asks for -/
def l8 (cs : List Int32) (i : Nat) : Int32 := cs.getD i 0
abbrev letP (B : Nat → Int32) (p e : Nat) (i : Nat) (c : Int32) : Prop := (p + i < e ∧ B (p + i) = c) ∨ (¬ p + i < e ∧ c = 0)
theorem let_iff {B : Nat → Int32} {p : Nat} (hk : kd B p = 1) {cs : List Int32} (hl : cs.length ≤ 8) (hz : ∀ i, i < cs.length → ¬ cs.getD i 0 = 0) :
    (en B p ≤ p + 8 ∧ ∀ i, i < 8 → letP B p (en B p) i (l8 cs i)) ↔ isWd cs B p (en B p) = true := by
  obtain ⟨a1, a2⟩ := (kd_word B p).mp hk
  have he : en B p = adv isLt B 200 p := by simp [en, a1, a2, eoL]
  have hge := adv_ge isLt B 200 p
  have hnz : ∀ i, p + i < en B p → ¬ B (p + i) = 0 := by
    intro i hi hz
    have := adv_all (P := isLt) (B := B) 200 p (p + i) (by omega) (by rw [← he]; exact hi)
    rw [hz] at this
    exact absurd this (by decide)
  rw [isWd_iff]
  constructor
  · rintro ⟨h1, h2⟩
    have hlen : en B p = p + cs.length := by
      rcases Nat.lt_trichotomy (en B p) (p + cs.length) with q | q | q
      · exfalso
        have hi : en B p - p < cs.length := by omega
        rcases h2 (en B p - p) (by omega) with ⟨g, -⟩ | ⟨-, g⟩
        · omega
        · exact hz _ hi g
      · exact q
      · exfalso
        rcases h2 cs.length (by omega) with ⟨g, g2⟩ | ⟨g, -⟩
        · refine hnz _ g (g2.trans ?_)
          simp [l8, List.getD]
        · omega
    refine ⟨hlen, fun i hi => ?_⟩
    rcases h2 i (by omega) with ⟨-, g⟩ | ⟨g, -⟩
    · exact g
    · omega
  · rintro ⟨h1, h2⟩
    refine ⟨by omega, fun i hi => ?_⟩
    by_cases hc : i < cs.length
    · exact Or.inl ⟨by omega, h2 i hc⟩
    · refine Or.inr ⟨by omega, ?_⟩
      simp [l8, List.getD, hc]
