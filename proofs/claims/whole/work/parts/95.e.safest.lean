/-! ===== the most told alike ===== -/
theorem Wn_c2 {F G : Nat → Nat → Nat → Bool} : ∀ r, r ≤ 6 → (∀ s l d, 6 - r ≤ s → s < 6 → F s l d = G s l d) → ∀ l, Wn F r l = Wn G r l
  | 0, _, _, _ => rfl
  | r + 1, hr, h, l => by
    show it _ 4 0 = it _ 4 0
    refine it_congr 4 (fun d v _ => ?_)
    rw [h (5 - r) l d (by omega) (by omega), Wn_c2 r (by omega) (fun s l d h1 h2 => h s l d (by omega) h2) d]
/-- by such a telling -/
def tF (T : Nat → Nat → Int32 → Bool) (t : Nat → Nat) : Nat → Nat → Nat → Bool := fun s l d => T (s * 4 + l) d (tlv (t s))
theorem it_max_at {f : Nat → Nat} : ∀ n, ∃ k, k < n + 1 ∧ it (fun k v => max v (f k)) (n + 1) 0 = f k
  | 0 => ⟨0, by decide, by show max 0 (f 0) = f 0; omega⟩
  | n + 1 => by
    obtain ⟨k, hk, e⟩ := it_max_at (f := f) n
    rw [it_succ, e]
    rcases Nat.le_total (f k) (f (n + 1)) with h | h
    · exact ⟨n + 1, by omega, by omega⟩
    · exact ⟨k, by omega, by omega⟩
def tup (t : Nat → Nat) (s n : Nat) : Nat → Nat := fun i => if i = s then n else t i
theorem tell_step {T : Nat → Nat → Int32 → Bool} {t : Nat → Nat} {r n : Nat} (hr : r ≤ 5) (h : Nat → Nat) : sm 4 (fun d => nxv T (5 - r) (tlv n) h d * Wn (tF T t) r d) = sm 4 (fun l => h l * Wn (tF T (tup t (5 - r) n)) (r + 1) l) := by
  have h1 := nb_swap T (5 - r) (tlv n) h (fun d => Wn (tF T t) r d)
  have h1 : sm 4 (fun d => nxv T (5 - r) (tlv n) h d * Wn (tF T t) r d) = _ := h1
  rw [h1]
  refine sm_eq 4 (fun l _ => ?_)
  congr 1
  show it (fun d v => v + (if T ((5 - r) * 4 + l) d (tlv n) = true then Wn (tF T t) r d else 0)) 4 0 = it (fun d v => v + (if T ((5 - r) * 4 + l) d (tlv (if 5 - r = 5 - r then n else t (5 - r))) = true then Wn (tF T (tup t (5 - r) n)) r d else 0)) 4 0
  rw [if_pos rfl]
  refine it_congr 4 (fun d v _ => ?_)
  rw [Wn_c2 (F := tF T t) (G := tF T (tup t (5 - r) n)) r (by omega) (fun s l d h2 h3 => by
    show T (s * 4 + l) d (tlv (t s)) = T (s * 4 + l) d (tlv (if s = 5 - r then n else t s))
    rw [if_neg (by omega)]) d]
theorem Mx_ge {T : Nat → Nat → Int32 → Bool} {t : Nat → Nat} (ht : ∀ s, s < 6 → t s < 7) : ∀ r, r ≤ 6 → ∀ h, sm 4 (fun l => h l * Wn (tF T t) r l) ≤ Mx T r h
  | 0, _, h => by
    show sm 4 (fun l => h l * 1) ≤ sm 4 h
    exact sm_le 4 (fun d _ => by rw [Nat.mul_one]; exact Nat.le_refl _)
  | r + 1, hr, h => by
    have e : tup t (5 - r) (t (5 - r)) = t := by
      funext i
      unfold tup
      by_cases hi : i = 5 - r
      · rw [if_pos hi, hi]
      · rw [if_neg hi]
    have h1 := tell_step (T := T) (t := t) (n := t (5 - r)) (show r ≤ 5 by omega) h
    rw [e] at h1
    rw [← h1]
    refine Nat.le_trans (Mx_ge ht r (by omega) _) ?_
    exact it_max_ge (f := fun n => Mx T r (nxv T (5 - r) (tlv n) h)) 7 (ht (5 - r) (by omega))
theorem Mx_at {T : Nat → Nat → Int32 → Bool} : ∀ r, r ≤ 6 → ∀ h, ∃ t : Nat → Nat, (∀ s, t s < 7) ∧ Mx T r h = sm 4 (fun l => h l * Wn (tF T t) r l)
  | 0, _, h => ⟨fun _ => 0, fun _ => (by decide : 0 < 7), by
    show sm 4 h = sm 4 (fun l => h l * 1)
    exact sm_eq 4 (fun d _ => (Nat.mul_one _).symm)⟩
  | r + 1, hr, h => by
    obtain ⟨n, hn, e⟩ := it_max_at (f := fun n => Mx T r (nxv T (5 - r) (tlv n) h)) 6
    obtain ⟨t, ht, e2⟩ := Mx_at (T := T) r (by omega) (nxv T (5 - r) (tlv n) h)
    refine ⟨tup t (5 - r) n, fun s => ?_, ?_⟩
    · unfold tup
      split
      · exact hn
      · exact ht s
    · show it (fun n v => max v (Mx T r (nxv T (5 - r) (tlv n) h))) 7 0 = _
      rw [e, e2, tell_step (by omega)]
theorem h0_sum (f : Nat → Nat) : sm 4 (fun l => h0 l * f l) = f 0 := by
  show 0 + (if 0 = 0 then 1 else 0) * f 0 + (if 1 = 0 then 1 else 0) * f 1 + (if 2 = 0 then 1 else 0) * f 2 + (if 3 = 0 then 1 else 0) * f 3 = f 0
  simp
/-- how often a code stands in the list -/
theorem count_cnP {p : Nat → Bool} {f : Nat → Int32} {c : Int32} : ∀ n, (((List.range n).filter p).map f).count c = cnP (fun l => p l && decide (f l = c)) n
  | 0 => rfl
  | n + 1 => by
    rw [List.range_succ, List.filter_append, List.map_append, List.count_append, count_cnP n, cnP_s]
    congr 1
    by_cases hp : p n = true
    · rw [List.filter_cons_of_pos hp, List.filter_nil, List.map_cons, List.map_nil, hp, Bool.true_and]
      by_cases hc : f n = c
      · rw [if_pos (decide_eq_true hc), hc, List.count_singleton_self]
      · rw [if_neg (by rw [decide_eq_true_eq]; exact hc), List.count_eq_zero]
        intro z
        exact hc (List.mem_singleton.mp z).symm
    · rw [List.filter_cons_of_neg hp, List.filter_nil, List.map_nil, if_neg (by rw [Bool.and_eq_true]; exact fun z => hp z.1)]
      rfl
/-- a telling as a number -/
def cod6 (t : Nat → Nat) : Nat := ((((t 0 * 7 + t 1) * 7 + t 2) * 7 + t 3) * 7 + t 4) * 7 + t 5
theorem cod6_inj {t u : Nat → Nat} (ht : ∀ s, s < 6 → t s < 7) (hu : ∀ s, s < 6 → u s < 7) (h : cod6 t = cod6 u) : ∀ s, s < 6 → t s = u s := by
  have a0 := ht 0 (by decide); have a1 := ht 1 (by decide); have a2 := ht 2 (by decide); have a3 := ht 3 (by decide); have a4 := ht 4 (by decide); have a5 := ht 5 (by decide)
  have b0 := hu 0 (by decide); have b1 := hu 1 (by decide); have b2 := hu 2 (by decide); have b3 := hu 3 (by decide); have b4 := hu 4 (by decide); have b5 := hu 5 (by decide)
  unfold cod6 at h
  intro s hs
  rcases six6 hs with rfl | rfl | rfl | rfl | rfl | rfl <;> omega
theorem cod6_lt {t : Nat → Nat} (ht : ∀ s, s < 6 → t s < 7) : cod6 t < 117649 := by
  have a0 := ht 0 (by decide); have a1 := ht 1 (by decide); have a2 := ht 2 (by decide); have a3 := ht 3 (by decide); have a4 := ht 4 (by decide); have a5 := ht 5 (by decide)
  unfold cod6; omega
theorem codV_n {T : Nat → Int32} {x : Nat} {l : Int32} {t : Nat → Nat} (h : ∀ s, s < 6 → byV T (nI x) (nI s) l = tlv (t s)) : codV T x l = nI (cod6 t) := by
  have st : ∀ v k, 7 * nI v + tlv k + 1 = nI (v * 7 + k) := fun v k => by
    unfold tlv
    rw [show (7 : Int32) * nI v = nI (7 * v) from pk_mul 7 v, Int32.add_assoc, Int32.sub_add_cancel, nI_add, Nat.mul_comm]
  show 7 * (7 * (7 * (7 * (7 * (7 * (0 : Int32) + byV T (nI x) (nI 0) l + 1) + byV T (nI x) (nI 1) l + 1) + byV T (nI x) (nI 2) l + 1) + byV T (nI x) (nI 3) l + 1) + byV T (nI x) (nI 4) l + 1) + byV T (nI x) (nI 5) l + 1 = _
  rw [h 0 (by decide), h 1 (by decide), h 2 (by decide), h 3 (by decide), h 4 (by decide), h 5 (by decide), show (0 : Int32) = nI 0 from nI_0.symm, st, st, st, st, st, st, Nat.zero_mul, Nat.zero_add]
  rfl
theorem tlv_inj {a b : Nat} (ha : a < 7) (hb : b < 7) (h : tlv a = tlv b) : a = b := by
  unfold tlv at h
  have := congrArg (fun z => z + 1) h
  simp only [Int32.sub_add_cancel] at this
  exact (nI_eq (by omega) (by omega)).mp this
/-- the worst answer, by the reference's list and by the class's search -/
theorem safe_same {R al sy : Nat → Int32} {T : Nat → Int32} {set : Int32} {x : Nat} (h : FitR R set (fb al set)) (hT : ∀ s L, s < 6 → L < 4096 → byV T (nI x) (nI s) (nI L) = sy ((s * 4 + pN L s) * 4 + dN L s)) (hy : ∀ p, p < 96 → ∃ k, k < 7 ∧ sy p = tlv k) : mxL (codL T R x set 4096) = Mx (tB al sy set) 6 h0 := by
  have code : ∀ L, ∃ k : Nat → Nat, ∀ s, s < 6 → k s < 7 ∧ sy ((s * 4 + pN L s) * 4 + dN L s) = tlv (k s) := fun L => by
    have : ∀ s, ∃ k, s < 6 → k < 7 ∧ sy ((s * 4 + pN L s) * 4 + dN L s) = tlv k := fun s => by
      by_cases hs : s < 6
      · have h1 := pN_lt L s; have h2 := dN_lt L s
        obtain ⟨k, hk⟩ := hy ((s * 4 + pN L s) * 4 + dN L s) (by omega)
        exact ⟨k, fun _ => hk⟩
      · exact ⟨0, fun z => absurd z hs⟩
    exact ⟨fun s => (this s).choose, fun s hs => (this s).choose_spec hs⟩
  have tfi : ∀ (t : Nat → Nat) L, LPo (tF (tB al sy set) t) L ↔ LPo (fb al set) L ∧ ∀ s, s < 6 → sy ((s * 4 + pN L s) * 4 + dN L s) = tlv (t s) := fun t L => by
    have e : ∀ s, s < 6 → (tF (tB al sy set) t s (pN L s) (dN L s) = true ↔ fb al set s (pN L s) (dN L s) = true ∧ sy ((s * 4 + pN L s) * 4 + dN L s) = tlv (t s)) := fun s _ => by
      have h1 := pN_lt L s
      show (fb al set ((s * 4 + pN L s) / 4) ((s * 4 + pN L s) % 4) (dN L s) && decide (sy ((s * 4 + pN L s) * 4 + dN L s) = tlv (t s))) = true ↔ _
      rw [show (s * 4 + pN L s) / 4 = s by omega, show (s * 4 + pN L s) % 4 = pN L s by omega, Bool.and_eq_true, decide_eq_true_eq]
    constructor
    · intro q
      exact ⟨fun s hs => ((e s hs).mp (q s hs)).1, fun s hs => ((e s hs).mp (q s hs)).2⟩
    · intro q s hs
      exact (e s hs).mpr ⟨q.1 s hs, q.2 s hs⟩
  have cnt : ∀ t : Nat → Nat, (∀ s, s < 6 → t s < 7) → (codL T R x set 4096).count (nI (cod6 t)) = Wn (tF (tB al sy set) t) 6 0 := fun t ht => by
    unfold codL
    rw [count_cnP, ← cnP_W]
    refine cnP_congr 4096 (fun L hL => ?_)
    obtain ⟨k, hk⟩ := code L
    have hc : codV T x (nI L) = nI (cod6 k) := codV_n (fun s hs => by rw [hT s L hs hL]; exact (hk s hs).2)
    rw [Bool.eq_iff_iff, Bool.and_eq_true, LPo_PB hL, tfi]
    unfold fitsB
    rw [decide_eq_true_eq, decide_eq_true_eq, h.pb hL, LPo_PB hL, hc]
    constructor
    · rintro ⟨q1, q2⟩
      refine ⟨q1, fun s hs => ?_⟩
      have := (nI_eq (Nat.lt_trans (cod6_lt (fun s hs => (hk s hs).1)) (by decide)) (Nat.lt_trans (cod6_lt ht) (by decide))).mp q2
      rw [(hk s hs).2, cod6_inj (fun s hs => (hk s hs).1) ht this s hs]
    · rintro ⟨q1, q2⟩
      refine ⟨q1, ?_⟩
      have e : ∀ s, s < 6 → k s = t s := fun s hs => tlv_inj (hk s hs).1 (ht s hs) ((hk s hs).2.symm.trans (q2 s hs))
      unfold cod6
      rw [e 0 (by decide), e 1 (by decide), e 2 (by decide), e 3 (by decide), e 4 (by decide), e 5 (by decide)]
  refine mxL_eq (fun c => ?_) ?_
  · rcases Nat.eq_zero_or_pos ((codL T R x set 4096).count c) with h0' | h0'
    · rw [h0']; exact Nat.zero_le _
    · have hm := List.count_pos_iff.mp h0'
      unfold codL at hm
      obtain ⟨L, hL, rfl⟩ := List.mem_map.mp hm
      have hL := List.mem_range.mp (List.mem_filter.mp hL).1
      obtain ⟨k, hk⟩ := code L
      have hc : codV T x (nI L) = nI (cod6 k) := codV_n (fun s hs => by rw [hT s L hs hL]; exact (hk s hs).2)
      rw [hc, cnt k (fun s hs => (hk s hs).1)]
      have := Mx_ge (T := tB al sy set) (t := k) (fun s hs => (hk s hs).1) 6 (Nat.le_refl _) h0
      rw [h0_sum] at this
      exact this
  · right
    obtain ⟨t, ht, e⟩ := Mx_at (T := tB al sy set) 6 (Nat.le_refl _) h0
    rw [h0_sum] at e
    exact ⟨nI (cod6 t), by rw [cnt t (fun s _ => ht s), e]⟩
