/-! ===== the life of most weight ===== -/
/-- the first of the greatest, by a fold -/
def fmF (Q : Nat → Prop) [∀ d, Decidable (Q d)] (V : Nat → Int32) : Nat → Int32 × Int32 → Int32 × Int32 := fun d p => if Q d then (if p.1 = -1 then (nI d, V d) else if V d ≤ p.2 then p else (nI d, V d)) else p
def FM (Q : Nat → Prop) (V : Nat → Int32) (n d : Nat) : Prop := d < n ∧ Q d ∧ (∀ k, k < n → Q k → V k ≤ V d) ∧ ∀ k, k < d → Q k → V k < V d
theorem nI_m1' {d : Nat} (h : d < 2 ^ 31) : ¬ nI d = -1 := fun z => by
  have := nI_pos' h
  rw [z] at this
  exact absurd this (by decide)
theorem fm_spec {Q : Nat → Prop} [∀ d, Decidable (Q d)] {V : Nat → Int32} : ∀ n, n < 2 ^ 31 → (it (fmF Q V) n (-1, 0) = (-1, 0) ∧ ∀ k, k < n → ¬ Q k) ∨ ∃ d, it (fmF Q V) n (-1, 0) = (nI d, V d) ∧ FM Q V n d
  | 0, _ => .inl ⟨rfl, fun k hk => absurd hk (Nat.not_lt_zero k)⟩
  | n + 1, hn => by
    rw [it_succ]
    rcases fm_spec (Q := Q) (V := V) n (by omega) with ⟨h1, h2⟩ | ⟨d, h1, h3, h4, h5, h6⟩
    · rw [h1]
      by_cases hq : Q n
      · right
        refine ⟨n, ?_, by omega, hq, fun k hk hQ => ?_, fun k hk hQ => absurd hQ (h2 k hk)⟩
        · unfold fmF; rw [if_pos hq]; exact if_pos rfl
        · by_cases e : k = n
          · rw [e]; exact Int32.le_refl _
          · exact absurd hQ (h2 k (by omega))
      · left
        refine ⟨?_, fun k hk hQ => ?_⟩
        · unfold fmF; exact if_neg hq
        · by_cases e : k = n
          · subst e; exact hq hQ
          · exact h2 k (by omega) hQ
    · right
      rw [h1]
      by_cases hq : Q n
      · by_cases hv : V n ≤ V d
        · refine ⟨d, ?_, by omega, h4, fun k hk hQ => ?_, h6⟩
          · unfold fmF; rw [if_pos hq]; exact (if_neg (nI_m1' (by omega))).trans (if_pos hv)
          · by_cases e : k = n
            · rw [e]; exact hv
            · exact h5 k (by omega) hQ
        · have hlt := Int32.not_le.mp hv
          refine ⟨n, ?_, by omega, hq, fun k hk hQ => ?_, fun k hk hQ => Int32.lt_of_le_of_lt (h5 k hk hQ) hlt⟩
          · unfold fmF; rw [if_pos hq]; exact (if_neg (nI_m1' (by omega))).trans (if_neg hv)
          · by_cases e : k = n
            · rw [e]; exact Int32.le_refl _
            · exact Int32.le_of_lt (Int32.lt_of_le_of_lt (h5 k (by omega) hQ) hlt)
      · refine ⟨d, ?_, by omega, h4, fun k hk hQ => ?_, h6⟩
        · unfold fmF; exact if_neg hq
        · by_cases e : k = n
          · subst e; exact absurd hQ hq
          · exact h5 k (by omega) hQ
/-- bounded weights: how much a way on weighs -/
def WB (wt : Nat → Int32) : Prop := ∀ k, k < 96 → -99 ≤ (wt k).toInt ∧ (wt k).toInt ≤ 99
def pw (wt : Nat → Int32) : Nat → Nat → Nat → Int
  | 0, _, _ => 0
  | r + 1, l, n => (wt (((5 - r) * 4 + l) * 4 + n / 4 ^ r)).toInt + pw wt r (n / 4 ^ r) (n % 4 ^ r)
theorem toInt_add {x w : Int32} (h1 : -10000 ≤ x.toInt ∧ x.toInt ≤ 10000) (h2 : -10000 ≤ w.toInt ∧ w.toInt ≤ 10000) : (x + w).toInt = x.toInt + w.toInt := by
  rw [Int32.toInt_add]
  exact Int.bmod_eq_of_le (by omega) (by omega)
theorem div_lt4 {r n : Nat} (h : n < 4 ^ (r + 1)) : n / 4 ^ r < 4 := by
  rw [Nat.div_lt_iff_lt_mul (pos4 r), Nat.mul_comm, ← Nat.pow_succ]; exact h
theorem pw_rng {wt : Nat → Int32} (hw : WB wt) : ∀ r : Nat, r ≤ 6 → ∀ l n, l < 4 → n < 4 ^ r → -99 * (r : Int) ≤ pw wt r l n ∧ pw wt r l n ≤ 99 * (r : Int)
  | 0, _, _, _, _, _ => ⟨by show (-99 * ((0 : Nat) : Int)) ≤ 0; decide, by show (0 : Int) ≤ 99 * ((0 : Nat) : Int); decide⟩
  | r + 1, hr, l, n, hl, hn => by
    have hd := div_lt4 hn
    have h1 := hw (((5 - r) * 4 + l) * 4 + n / 4 ^ r) (by omega)
    have h2 := pw_rng hw r (by omega) (n / 4 ^ r) (n % 4 ^ r) hd (Nat.mod_lt _ (pos4 r))
    show -99 * ((r + 1 : Nat) : Int) ≤ (wt (((5 - r) * 4 + l) * 4 + n / 4 ^ r)).toInt + pw wt r (n / 4 ^ r) (n % 4 ^ r) ∧ _ + pw wt r (n / 4 ^ r) (n % 4 ^ r) ≤ 99 * ((r + 1 : Nat) : Int)
    omega
theorem mWn_fm {F : Nat → Nat → Nat → Bool} {wt : Nat → Int32} {r l : Nat} : mWn F wt (r + 1) l = if (it (fmF (fun d => 0 < wadd F (5 - r) l d) (fun d => wt (((5 - r) * 4 + l) * 4 + d) + mWn F wt r d)) 4 (-1, 0)).1 = -1 then 0 else (it (fmF (fun d => 0 < wadd F (5 - r) l d) (fun d => wt (((5 - r) * 4 + l) * 4 + d) + mWn F wt r d)) 4 (-1, 0)).2 := rfl
theorem hvP_fm {F : Nat → Nat → Nat → Bool} {wt m0 : Nat → Int32} {r l : Nat} (hr : r ≤ 5) : hvP F wt (moV F wt m0) (5 - r) l = it (fmF (fun d => 0 < wadd F (5 - r) l d) (fun d => wt (((5 - r) * 4 + l) * 4 + d) + mWn F wt r d)) 4 (-1, 0) := by
  unfold hvP
  refine it_congr 4 (fun d p hd => ?_)
  have e : wtB wt (moV F wt m0) (5 - r) l d = wt (((5 - r) * 4 + l) * 4 + d) + mWn F wt r d := by
    unfold wtB moV
    rw [if_pos (by omega), show 6 - ((5 - r + 1) * 4 + d) / 4 = r by omega, show ((5 - r + 1) * 4 + d) % 4 = d by omega]
  unfold hvF fmF
  rw [e]
theorem best_life {F : Nat → Nat → Nat → Bool} {wt m0 : Nat → Int32} (hw : WB wt) : ∀ r, r ≤ 6 → ∀ l, l < 4 → 0 < Wn F r l → ∃ n, n < 4 ^ r ∧ PB F r l n = true ∧ (mWn F wt r l).toInt = pw wt r l n ∧ (∀ k, k < 4 ^ r → PB F r l k = true → pw wt r l k ≤ pw wt r l n) ∧ (∀ k, k < n → PB F r l k = true → pw wt r l k < pw wt r l n) ∧ ∀ dig, (it (fun k p => dmS F wt (moV F wt m0) (6 - r + k) p) r (dig, l)).1 = DGT r dig n
  | 0, _, l, _, _ => ⟨0, by decide, rfl, rfl, fun k _ _ => Int.le_refl _, fun k hk _ => absurd hk (Nat.not_lt_zero k), fun dig => rfl⟩
  | r + 1, hr, l, hl, hW => by
    have ih : ∀ d, d < 4 → 0 < wadd F (5 - r) l d → F (5 - r) l d = true ∧ ∃ n, n < 4 ^ r ∧ PB F r d n = true ∧ (mWn F wt r d).toInt = pw wt r d n ∧ (∀ k, k < 4 ^ r → PB F r d k = true → pw wt r d k ≤ pw wt r d n) ∧ (∀ k, k < n → PB F r d k = true → pw wt r d k < pw wt r d n) ∧ ∀ dig, (it (fun k p => dmS F wt (moV F wt m0) (6 - r + k) p) r (dig, d)).1 = DGT r dig n := fun d hd h => by
      have h2 := wadd_pos_iff.mp h
      rw [show 5 - (5 - r) = r by omega] at h2
      exact ⟨h2.1, best_life hw r (by omega) d hd h2.2⟩
    have hV : ∀ d, d < 4 → 0 < wadd F (5 - r) l d → (wt (((5 - r) * 4 + l) * 4 + d) + mWn F wt r d).toInt = (wt (((5 - r) * 4 + l) * 4 + d)).toInt + (mWn F wt r d).toInt := fun d hd h => by
      obtain ⟨_, n, h1, _, h3, _⟩ := ih d hd h
      have h4 := pw_rng hw r (by omega) d n hd h1
      have h5 := hw (((5 - r) * 4 + l) * 4 + d) (by omega)
      exact toInt_add (by omega) (by rw [h3]; omega)
    rcases fm_spec (Q := fun d => 0 < wadd F (5 - r) l d) (V := fun d => wt (((5 - r) * 4 + l) * 4 + d) + mWn F wt r d) 4 (by decide) with ⟨_, hno⟩ | ⟨d, he, hd, hq, hmax, hfst⟩
    · exfalso
      rw [← cnP_W] at hW
      obtain ⟨k, hk, hp⟩ := cnP_pos hW
      have hp : (F (5 - r) l (k / 4 ^ r) && PB F r (k / 4 ^ r) (k % 4 ^ r)) = true := hp
      rw [Bool.and_eq_true] at hp
      refine hno (k / 4 ^ r) (div_lt4 hk) (wadd_pos_iff.mpr ⟨hp.1, ?_⟩)
      rw [show 5 - (5 - r) = r by omega]
      exact W_pos (Nat.mod_lt _ (pos4 r)) hp.2
    · obtain ⟨hF, n, n1, n2, n3, n4, n5, n6⟩ := ih d hd hq
      have e1 : (d * 4 ^ r + n) / 4 ^ r = d := by rw [Nat.mul_comm, Nat.mul_add_div (pos4 r), Nat.div_eq_of_lt n1, Nat.add_zero]
      have e2 : (d * 4 ^ r + n) % 4 ^ r = n := by rw [Nat.mul_comm, Nat.mul_add_mod, Nat.mod_eq_of_lt n1]
      have hpn : pw wt (r + 1) l (d * 4 ^ r + n) = (wt (((5 - r) * 4 + l) * 4 + d) + mWn F wt r d).toInt := by
        show (wt (((5 - r) * 4 + l) * 4 + (d * 4 ^ r + n) / 4 ^ r)).toInt + pw wt r ((d * 4 ^ r + n) / 4 ^ r) ((d * 4 ^ r + n) % 4 ^ r) = _
        rw [e1, e2, hV d hd hq, n3]
      have split : ∀ k, k < 4 ^ (r + 1) → PB F (r + 1) l k = true → k / 4 ^ r < 4 ∧ 0 < wadd F (5 - r) l (k / 4 ^ r) ∧ PB F r (k / 4 ^ r) (k % 4 ^ r) = true := fun k hk hp => by
        have hp : (F (5 - r) l (k / 4 ^ r) && PB F r (k / 4 ^ r) (k % 4 ^ r)) = true := hp
        rw [Bool.and_eq_true] at hp
        refine ⟨div_lt4 hk, wadd_pos_iff.mpr ⟨hp.1, ?_⟩, hp.2⟩
        rw [show 5 - (5 - r) = r by omega]
        exact W_pos (Nat.mod_lt _ (pos4 r)) hp.2
      have le1 : ∀ k, k < 4 ^ (r + 1) → PB F (r + 1) l k = true → pw wt (r + 1) l k ≤ (wt (((5 - r) * 4 + l) * 4 + k / 4 ^ r) + mWn F wt r (k / 4 ^ r)).toInt := fun k hk hp => by
        obtain ⟨h1, h2, h3⟩ := split k hk hp
        obtain ⟨_, n', _, _, m3, m4, _⟩ := ih _ h1 h2
        rw [hV _ h1 h2, m3]
        show (wt (((5 - r) * 4 + l) * 4 + k / 4 ^ r)).toInt + pw wt r (k / 4 ^ r) (k % 4 ^ r) ≤ _
        have := m4 (k % 4 ^ r) (Nat.mod_lt _ (pos4 r)) h3
        omega
      have hlt : d * 4 ^ r + n < 4 ^ (r + 1) := by
        rw [Nat.pow_succ]
        have : (d + 1) * 4 ^ r ≤ 4 * 4 ^ r := Nat.mul_le_mul_right _ (by omega)
        rw [Nat.succ_mul] at this
        omega
      refine ⟨d * 4 ^ r + n, hlt, ?_, ?_, fun k hk hp => ?_, fun k hk hp => ?_, fun dig => ?_⟩
      · rw [PB_blk n1, hF, n2]; rfl
      · rw [hpn, mWn_fm, he, if_neg (nI_m1' (by omega))]
      · rw [hpn]
        obtain ⟨h1, h2, _⟩ := split k hk hp
        exact Int.le_trans (le1 k hk hp) (Int32.le_iff_toInt_le.mp (hmax _ h1 h2))
      · rw [hpn]
        obtain ⟨h1, h2, h3⟩ := split k (by omega) hp
        rcases Nat.lt_trichotomy (k / 4 ^ r) d with h4 | h4 | h4
        · exact Int.lt_of_le_of_lt (le1 k (by omega) hp) (Int32.lt_iff_toInt_lt.mp (hfst _ h4 h2))
        · have hkn : k % 4 ^ r < n := by
            have := Nat.div_add_mod k (4 ^ r)
            rw [h4, Nat.mul_comm] at this
            omega
          rw [h4] at h3
          have := n5 _ hkn h3
          rw [hV d hd hq, n3]
          show (wt (((5 - r) * 4 + l) * 4 + k / 4 ^ r)).toInt + pw wt r (k / 4 ^ r) (k % 4 ^ r) < _
          rw [h4]
          omega
        · exfalso
          have h5 : (d + 1) * 4 ^ r ≤ k / 4 ^ r * 4 ^ r := Nat.mul_le_mul_right _ h4
          have h6 := Nat.div_mul_le_self k (4 ^ r)
          rw [Nat.succ_mul] at h5
          omega
      · rw [it_first]
        have e0 : dmS F wt (moV F wt m0) (6 - (r + 1) + 0) (dig, l) = (dig * 10 + nI d + 1, d) := by
          rw [dmS_X, show 6 - (r + 1) + 0 = 5 - r by omega]
          show dmX (dig, l) (hvP F wt (moV F wt m0) (5 - r) l).1 = _
          rw [hvP_fm (by omega), he]
          unfold dmX
          rw [if_neg (nI_m1' (show d < 2 ^ 31 by omega)), nI_clamp (by omega)]
        rw [e0]
        have e3 : it (fun k p => dmS F wt (moV F wt m0) (6 - (r + 1) + (k + 1)) p) r (dig * 10 + nI d + 1, d) = it (fun k p => dmS F wt (moV F wt m0) (6 - r + k) p) r (dig * 10 + nI d + 1, d) := it_congr r (fun k p _ => by
          show dmS F wt (moV F wt m0) (6 - (r + 1) + (k + 1)) p = dmS F wt (moV F wt m0) (6 - r + k) p
          rw [show 6 - (r + 1) + (k + 1) = 6 - r + k by omega])
        rw [e3, n6]
        show _ = DGT r (dig * 10 + nI ((d * 4 ^ r + n) / 4 ^ r) + 1) ((d * 4 ^ r + n) % 4 ^ r)
        rw [e1, e2]
/-- the reference's best life and the class's -/
theorem life_same {R : Nat → Int32} {set : Int32} {F : Nat → Nat → Nat → Bool} {val wt m0 : Nat → Int32} (h : FitR R set F) (hw : WB wt) (hW : 0 < Wn F 6 0) (hval : ∀ L, L < 4096 → (val L).toInt = pw wt 6 0 L) : digV (lifP val R set).1 = (dmN F wt (moV F wt m0) 6).1 ∧ (lifP val R set).2 = mWn F wt 6 0 := by
  obtain ⟨n, h1, h2, h3, h4, h5, h6⟩ := best_life (m0 := m0) hw 6 (Nat.le_refl _) 0 (by decide) hW
  have h1 : n < 4096 := h1
  have e : lifP val R set = it (fmF (fun L => PB F 6 0 L = true) val) 4096 (-1, 0) := it_congr 4096 (fun L p hL => by
    unfold lifF fmF
    by_cases hp : PB F 6 0 L = true
    · rw [if_pos ((h.pb hL).mpr hp), if_pos hp]
    · rw [if_neg (fun z => hp ((h.pb hL).mp z)), if_neg hp])
  rcases fm_spec (Q := fun L => PB F 6 0 L = true) (V := val) 4096 (by decide) with ⟨_, hno⟩ | ⟨L, he, hL, hq, hmax, hfst⟩
  · exact absurd h2 (hno n h1)
  · have hLn : L = n := by
      rcases Nat.lt_trichotomy L n with q | q | q
      · exfalso
        have a1 := h5 L q hq
        have a2 := Int32.le_iff_toInt_le.mp (hmax n h1 h2)
        rw [hval n h1, hval L hL] at a2
        omega
      · exact q
      · exfalso
        have a1 := Int32.lt_iff_toInt_lt.mp (hfst n q h2)
        have a2 := h4 L hL hq
        rw [hval n h1, hval L hL] at a1
        omega
    subst hLn
    rw [e, he]
    refine ⟨?_, ?_⟩
    · show digV (nI L) = _
      rw [digV_n hL, ← h6 0]
      unfold dmN
      rw [it_congr (f := fun k p => dmS F wt (moV F wt m0) (6 - 6 + k) p) (g := dmS F wt (moV F wt m0)) 6 (fun k p _ => by show dmS F wt (moV F wt m0) (0 + k) p = _; rw [Nat.zero_add])]
    · show val L = _
      exact Int32.toInt_inj.mp ((hval L hL).trans h3.symm)
/-- the reference's table of a part's values -/
def vK (a : Nat → Nat → Int32) (t : Nat) (age which : Int32) (s l d : Nat) : Int32 := askV a t age which 0 0 (nI s) (nI d) (nI l)
theorem val_ix {s l d : Nat} (hs : s < 6) (hl : l < 4) (hd : d < 4) : (16 * nI s + 4 * nI l + nI d).toNatClampNeg = 16 * s + 4 * l + d := by
  rw [show (16 : Int32) * nI s = nI (16 * s) from pk_mul 16 s, show (4 : Int32) * nI l = nI (4 * l) from pk_mul 4 l, nI_add, nI_add, nI_clamp (by omega)]
theorem val1_P {a : Nat → Nat → Int32} {t : Nat} {age which : Int32} {V : Nat → Int32} : TabP (fun _ s l d => vK a t age which s l d) 96 (it (val1 a t age which) 6 V) := by
  have := it_inv (f := val1 a t age which) (a := V) (P := fun k V => TabP (fun _ s l d => vK a t age which s l d) (16 * (6 * 0 + k)) V) (fun x s l d _ _ _ _ hB => absurd hB (by omega)) 6 (fun s V hs hP => by
    show TabP _ (16 * (6 * 0 + (s + 1))) (it (val2 a t age which s) (if s = 0 then 1 else 4) V)
    have hN : (if s = 0 then 1 else 4) ≤ 4 := la4 s
    have h2 := it_inv (f := val2 a t age which s) (a := V) (P := fun k V => TabP (fun _ s l d => vK a t age which s l d) (16 * (6 * 0 + s) + 4 * k) V) hP (if s = 0 then 1 else 4) (fun l V hl hP => by
      show TabP _ (16 * (6 * 0 + s) + 4 * (l + 1)) (it (val3 a t age which s l) 4 V)
      refine it_inv (f := val3 a t age which s l) (P := fun k V => TabP (fun _ s l d => vK a t age which s l d) (16 * (6 * 0 + s) + 4 * l + k) V) hP 4 (fun d V hd hP => ?_)
      unfold val3
      rw [val_ix hs (by omega) hd, show 16 * s + 4 * l + d = 16 * (6 * 0 + s) + 4 * l + d by omega]
      exact hP.step (by decide) hs (by omega) hd)
    refine h2.less (fun x' s' l' d' hx' hs' hl' hd' hB => ?_)
    by_cases e : s = 0
    · rw [if_pos e]
      by_cases e2 : x' = 0 ∧ s' = s
      · rw [if_pos (by omega)] at hl'
        omega
      · split at hl' <;> omega
    · rw [if_neg e]
      omega)
  exact this
theorem vas_at {a : Nat → Nat → Int32} {t : Nat} {age which : Int32} {V : Nat → Int32} {s l d : Nat} (hs : s < 6) (hl : l < (if s = 0 then 1 else 4)) (hd : d < 4) : vasV a t age which V (16 * nI s + 4 * nI l + nI d).toNatClampNeg = vK a t age which s l d := by
  rw [val_ix hs (Nat.lt_of_lt_of_le hl (la4 s)) hd]
  have := val1_P (a := a) (t := t) (age := age) (which := which) (V := V) 0 s l d (by decide) hs hl hd (by have := la4 s; omega)
  rw [show 16 * s + 4 * l + d = 16 * (6 * 0 + s) + 4 * l + d by omega]
  exact this
theorem pN_in (L : Nat) (s : Nat) : pN L s < (if s = 0 then 1 else 4) := by
  by_cases e : s = 0
  · rw [if_pos e]; unfold pN; rw [if_pos e]; decide
  · rw [if_neg e]; exact pN_lt L s
theorem cut_rng (w v : Int32) : -99 ≤ (cut w v).toInt ∧ (cut w v).toInt ≤ 99 := by
  have e99 : (99 : Int32).toInt = 99 := by decide
  have em : (-99 : Int32).toInt = -99 := by decide
  have e0 : (0 : Int32).toInt = 0 := by decide
  unfold cut
  by_cases hw : w = 2
  · rw [if_pos hw]
    by_cases h1 : v < -99
    · rw [if_pos h1, em]; omega
    · rw [if_neg h1]
      by_cases h2 : 99 < v
      · rw [if_pos h2, e99]; omega
      · rw [if_neg h2]
        rw [Int32.lt_iff_toInt_lt, em] at h1
        rw [Int32.lt_iff_toInt_lt, e99] at h2
        omega
  · rw [if_neg hw]
    by_cases h1 : v < 0
    · rw [if_pos h1, e0]; omega
    · rw [if_neg h1]
      by_cases h2 : 99 < v
      · rw [if_pos h2, e99]; omega
      · rw [if_neg h2]
        rw [Int32.lt_iff_toInt_lt, e0] at h1
        rw [Int32.lt_iff_toInt_lt, e99] at h2
        omega
theorem vK_rng (a : Nat → Nat → Int32) (t : Nat) (age which : Int32) (s l d : Nat) : -99 ≤ (vK a t age which s l d).toInt ∧ (vK a t age which s l d).toInt ≤ 99 := cut_rng _ _
theorem neg_toInt {x : Int32} (h : -10000 ≤ x.toInt ∧ x.toInt ≤ 10000) : (-x).toInt = - x.toInt := by
  rw [Int32.toInt_neg]
  exact Int.bmod_eq_of_le (by omega) (by omega)
theorem valV_int {a : Nat → Nat → Int32} {t : Nat} {age which : Int32} {V : Nat → Int32} {L : Nat} (hL : L < 4096) : ∀ n : Nat, n ≤ 6 → -99 * (n : Int) ≤ (it (valF (vasV a t age which V) (nI L)) n 0).toInt ∧ (it (valF (vasV a t age which V) (nI L)) n 0).toInt ≤ 99 * (n : Int) ∧ ∀ n', n = n' + 1 → (it (valF (vasV a t age which V) (nI L)) n 0).toInt = (it (valF (vasV a t age which V) (nI L)) n' 0).toInt + (vK a t age which n' (pN L n') (dN L n')).toInt
  | 0, _ => ⟨by show _ ≤ (0 : Int32).toInt; decide, by show (0 : Int32).toInt ≤ _; decide, fun n' h => absurd h (by omega)⟩
  | n + 1, hn => by
    obtain ⟨h1, h2, _⟩ := valV_int (a := a) (t := t) (age := age) (which := which) (V := V) hL n (by omega)
    have hr := vK_rng a t age which n (pN L n) (dN L n)
    have e : it (valF (vasV a t age which V) (nI L)) (n + 1) 0 = it (valF (vasV a t age which V) (nI L)) n 0 + vK a t age which n (pN L n) (dN L n) := by
      rw [it_succ]
      unfold valF
      rw [lastV_n hL (by omega), doV_n hL (by omega), vas_at (by omega) (pN_in L n) (dN_lt L n)]
    have e2 := toInt_add (x := it (valF (vasV a t age which V) (nI L)) n 0) (w := vK a t age which n (pN L n) (dN L n)) (by omega) (by omega)
    rw [e, e2]
    refine ⟨by omega, by omega, fun n' h => ?_⟩
    have : n' = n := by omega
    subst this; rfl
/-- a life's sum, and the class's weight of it, the sign given -/
theorem val_pw {a : Nat → Nat → Int32} {t : Nat} {age which : Int32} {V wt : Nat → Int32} {sg : Int} (hwt : ∀ s l d, s < 6 → l < 4 → d < 4 → (wt ((s * 4 + l) * 4 + d)).toInt = sg * (vK a t age which s l d).toInt) {L : Nat} (hL : L < 4096) : pw wt 6 0 L = sg * (valV (vasV a t age which V) (nI L)).toInt := by
  have hh := fun n' hn => (valV_int (a := a) (t := t) (age := age) (which := which) (V := V) hL (n' + 1) hn).2.2 n' rfl
  have e0 : dN L 0 = L / 4 ^ 5 := by show L / 1024 % 4 = L / 1024; omega
  have e1 : dN L 1 = L % 4 ^ 5 / 4 ^ 4 := by show L / 256 % 4 = L % 1024 / 256; omega
  have e2 : dN L 2 = L % 4 ^ 5 % 4 ^ 4 / 4 ^ 3 := by show L / 64 % 4 = L % 1024 % 256 / 64; omega
  have e3 : dN L 3 = L % 4 ^ 5 % 4 ^ 4 % 4 ^ 3 / 4 ^ 2 := by show L / 16 % 4 = L % 1024 % 256 % 64 / 16; omega
  have e4 : dN L 4 = L % 4 ^ 5 % 4 ^ 4 % 4 ^ 3 % 4 ^ 2 / 4 ^ 1 := by show L / 4 % 4 = L % 1024 % 256 % 64 % 16 / 4; omega
  have e5 : dN L 5 = L % 4 ^ 5 % 4 ^ 4 % 4 ^ 3 % 4 ^ 2 % 4 ^ 1 / 4 ^ 0 := by show L / 1 % 4 = L % 1024 % 256 % 64 % 16 % 4 / 1; omega
  have hp : pw wt 6 0 L = (wt ((0 * 4 + 0) * 4 + dN L 0)).toInt + ((wt ((1 * 4 + dN L 0) * 4 + dN L 1)).toInt + ((wt ((2 * 4 + dN L 1) * 4 + dN L 2)).toInt + ((wt ((3 * 4 + dN L 2) * 4 + dN L 3)).toInt + ((wt ((4 * 4 + dN L 3) * 4 + dN L 4)).toInt + ((wt ((5 * 4 + dN L 4) * 4 + dN L 5)).toInt + 0))))) := by
    rw [e0, e1, e2, e3, e4, e5]; rfl
  rw [hp, hwt 0 0 _ (by decide) (by decide) (dN_lt _ _), hwt 1 _ _ (by decide) (dN_lt _ _) (dN_lt _ _), hwt 2 _ _ (by decide) (dN_lt _ _) (dN_lt _ _), hwt 3 _ _ (by decide) (dN_lt _ _) (dN_lt _ _), hwt 4 _ _ (by decide) (dN_lt _ _) (dN_lt _ _), hwt 5 _ _ (by decide) (dN_lt _ _) (dN_lt _ _)]
  have s5 := hh 5 (by decide); have s4 := hh 4 (by decide); have s3 := hh 3 (by decide); have s2 := hh 2 (by decide); have s1 := hh 1 (by decide); have s0 := hh 0 (by decide)
  have z : (it (valF (vasV a t age which V) (nI L)) 0 0).toInt = 0 := by show (0 : Int32).toInt = 0; decide
  have hv : (valV (vasV a t age which V) (nI L)).toInt = (vK a t age which 0 0 (dN L 0)).toInt + (vK a t age which 1 (dN L 0) (dN L 1)).toInt + (vK a t age which 2 (dN L 1) (dN L 2)).toInt + (vK a t age which 3 (dN L 2) (dN L 3)).toInt + (vK a t age which 4 (dN L 3) (dN L 4)).toInt + (vK a t age which 5 (dN L 4) (dN L 5)).toInt := by
    show (it (valF (vasV a t age which V) (nI L)) (5 + 1) 0).toInt = _
    rw [s5, s4, s3, s2, s1, s0, z, Int.zero_add]
    rfl
  rw [hv, Int.mul_add, Int.mul_add, Int.mul_add, Int.mul_add, Int.mul_add]
  omega
theorem valV_rng {a : Nat → Nat → Int32} {t : Nat} {age which : Int32} {V : Nat → Int32} {L : Nat} (hL : L < 4096) : -10000 ≤ (valV (vasV a t age which V) (nI L)).toInt ∧ (valV (vasV a t age which V) (nI L)).toInt ≤ 10000 := by
  have h := valV_int (a := a) (t := t) (age := age) (which := which) (V := V) hL 6 (Nat.le_refl _)
  have e : (6 : Nat) = (6 : Int) := rfl
  show -10000 ≤ (it (valF (vasV a t age which V) (nI L)) 6 0).toInt ∧ (it (valF (vasV a t age which V) (nI L)) 6 0).toInt ≤ 10000
  omega
