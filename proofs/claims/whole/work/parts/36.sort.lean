/-! ===== laid by program (wip/tools) ===== -/
/-- a counted loop with an invariant -/
theorem P0.loopI {d mc ms : Nat} {M : MI} {Q : Option Value → PH → Prop} {α : Type} {N : Nat} (I : Nat → α → Prop) (S : Int32 → α → CF) (hd : ∀ i v, i < N → I i v → (∀ x v', x = nI (i + 1) → I (i + 1) v' → P0 d mc ms M (S x v') Q) → P0 d mc ms M (S (nI i) v) Q) (he : ∀ v, I N v → P0 d mc ms M (S (nI N) v) Q) : ∀ x v, x = nI 0 → I 0 v → P0 d mc ms M (S x v) Q := by
  have : ∀ k i v, i + k = N → I i v → P0 d mc ms M (S (nI i) v) Q := by
    intro k
    induction k with
    | zero => intro i v h hI; have : i = N := by omega
              subst this; exact he v hI
    | succ k ih => intro i v h hI; exact hd i v (by omega) hI (fun x v' hx hv => by rw [hx]; exact ih (i + 1) v' (by omega) hv)
  intro x v hx hv
  rw [hx]
  exact this N 0 v (by omega) hv
theorem P0.loopIZ {d mc ms : Nat} {M : MI} {Q : Option Value → PH → Prop} {α : Type} {N : Nat} (I : Nat → α → Prop) (S : Int32 → α → (Nat → Int32) → Int64 → CF) (hd : ∀ i v, i < N → ∀ z w, I i v → (∀ x v' z w, x = nI (i + 1) → I (i + 1) v' → P0 d mc ms M (S x v' z w) Q) → P0 d mc ms M (S (nI i) v z w) Q) (he : ∀ v z w, I N v → P0 d mc ms M (S (nI N) v z w) Q) : ∀ x v z w, x = nI 0 → I 0 v → P0 d mc ms M (S x v z w) Q := by
  have : ∀ k i v z w, i + k = N → I i v → P0 d mc ms M (S (nI i) v z w) Q := by
    intro k
    induction k with
    | zero => intro i v z w h hI; have : i = N := by omega
              subst this; exact he v z w hI
    | succ k ih => intro i v z w h hI; exact hd i v (by omega) z w hI (fun x v' z w hx hv => by rw [hx]; exact ih (i + 1) v' z w (by omega) hv)
  intro x v z w hx hv
  rw [hx]
  exact this N 0 v z w (by omega) hv
/-- how often x stands among the first n -/
def cnt (f : Nat → Int32) : Nat → Int32 → Nat
  | 0, _ => 0
  | n + 1, x => cnt f n x + (if f n = x then 1 else 0)
theorem cnt_congr {f f' : Nat → Int32} : ∀ n, (∀ i, i < n → f i = f' i) → ∀ x, cnt f n x = cnt f' n x
  | 0, _, _ => rfl
  | n + 1, h, x => by
    unfold cnt
    rw [cnt_congr n (fun i hi => h i (Nat.lt_succ_of_lt hi)) x, h n (Nat.lt_succ_self n)]
theorem cnt_upd {f : Nat → Int32} {v x : Int32} {i : Nat} : ∀ n, i < n → cnt (upd f i v) n x + (if f i = x then 1 else 0) = cnt f n x + (if v = x then 1 else 0)
  | 0, h => absurd h (Nat.not_lt_zero _)
  | n + 1, h => by
    unfold cnt
    by_cases e : i = n
    · rw [cnt_congr (f := upd f i v) (f' := f) n (fun j hj => pk_un (by omega)) x, e, pk_us]
      omega
    · have := cnt_upd (v := v) (x := x) (f := f) n (show i < n by omega)
      rw [pk_un (show n ≠ i by omega)]
      omega
theorem cnt_pos {f : Nat → Int32} {x : Int32} : ∀ n, 0 < cnt f n x ↔ ∃ i, i < n ∧ f i = x
  | 0 => ⟨fun h => absurd h (Nat.lt_irrefl 0), fun ⟨i, h, _⟩ => absurd h (Nat.not_lt_zero i)⟩
  | n + 1 => by
    unfold cnt
    constructor
    · intro h
      by_cases e : f n = x
      · exact ⟨n, Nat.lt_succ_self n, e⟩
      · rw [if_neg e] at h
        obtain ⟨i, hi, q⟩ := (cnt_pos n).mp h
        exact ⟨i, Nat.lt_succ_of_lt hi, q⟩
    · rintro ⟨i, hi, q⟩
      by_cases e : i = n
      · rw [e] at q; rw [if_pos q]; omega
      · have := (cnt_pos (f := f) (x := x) n).mpr ⟨i, by omega, q⟩
        omega
theorem cnt_split {f f' : Nat → Int32} {n : Nat} (h : ∀ x, cnt f n x = cnt f' n x) (k : Nat) (hk : ∀ i, n ≤ i → f i = f' i) : ∀ x, cnt f (n + k) x = cnt f' (n + k) x := by
  intro x
  induction k with
  | zero => exact h x
  | succ k ih =>
    show cnt f (n + k) x + (if f (n + k) = x then 1 else 0) = cnt f' (n + k) x + (if f' (n + k) = x then 1 else 0)
    rw [ih, hk (n + k) (Nat.le_add_right n k)]
def swp (f : Nat → Int32) (c k : Nat) : Nat → Int32 := upd (upd f c (f k)) k (f c)
theorem swp_k {f : Nat → Int32} {c k : Nat} : swp f c k k = f c := pk_us
theorem swp_c {f : Nat → Int32} {c k : Nat} (h : c ≠ k) : swp f c k c = f k := by unfold swp; rw [pk_un h, pk_us]
theorem swp_o {f : Nat → Int32} {c k j : Nat} (h1 : j ≠ c) (h2 : j ≠ k) : swp f c k j = f j := by unfold swp; rw [pk_un h2, pk_un h1]
def Sam (f0 f : Nat → Int32) (n : Nat) : Prop := (∀ x, cnt f n x = cnt f0 n x) ∧ ∀ i, n ≤ i → f i = f0 i
theorem Sam.rf {f : Nat → Int32} {n : Nat} : Sam f f n := ⟨fun _ => rfl, fun _ _ => rfl⟩
theorem Sam.trans {f g h : Nat → Int32} {n : Nat} (h1 : Sam f g n) (h2 : Sam g h n) : Sam f h n := ⟨fun x => (h2.1 x).trans (h1.1 x), fun i hi => (h2.2 i hi).trans (h1.2 i hi)⟩
theorem Sam.up {f g : Nat → Int32} {n m : Nat} (h : Sam f g n) (hm : n ≤ m) : Sam f g m := by
  obtain ⟨k, rfl⟩ := Nat.exists_eq_add_of_le hm
  exact ⟨cnt_split h.1 k h.2, fun i hi => h.2 i (by omega)⟩
theorem Sam.sw {f : Nat → Int32} {n c k : Nat} (hne : c ≠ k) (hc : c < n) (hk : k < n) : Sam f (swp f c k) n := by
  refine ⟨fun x => ?_, fun i hi => swp_o (by omega) (by omega)⟩
  have h1 := cnt_upd (f := upd f c (f k)) (v := f c) (x := x) n hk
  have h2 := cnt_upd (f := f) (v := f k) (x := x) n hc
  rw [pk_un (show k ≠ c from fun z => hne z.symm)] at h1
  show cnt (upd (upd f c (f k)) k (f c)) n x = _
  omega
theorem Sam.val {f g : Nat → Int32} {n : Nat} (h : Sam f g n) {i : Nat} (hi : i < n) : ∃ j, j < n ∧ f j = g i :=
  (cnt_pos n).mp (by rw [← h.1]; exact (cnt_pos n).mpr ⟨i, hi, rfl⟩)
/-- below each of the nodes from lo on, but k, stands nothing bigger; nor, below k, bigger than above k -/
def Hex (f : Nat → Int32) (lo n k : Nat) : Prop :=
  (∀ i c, lo ≤ i → i ≠ k → (c = 2 * i + 1 ∨ c = 2 * i + 2) → c < n → f c ≤ f i) ∧
  (∀ p c, lo ≤ p → (k = 2 * p + 1 ∨ k = 2 * p + 2) → (c = 2 * k + 1 ∨ c = 2 * k + 2) → c < n → f c ≤ f p)
def Hp (f : Nat → Int32) (lo n : Nat) : Prop := ∀ i c, lo ≤ i → (c = 2 * i + 1 ∨ c = 2 * i + 2) → c < n → f c ≤ f i
theorem Hex.step {f : Nat → Int32} {lo n k c : Nat} (h : Hex f lo n k) (hk : lo ≤ k) (hc : c = 2 * k + 1 ∨ c = 2 * k + 2) (hcn : c < n) (hmax : ∀ e, (e = 2 * k + 1 ∨ e = 2 * k + 2) → e < n → f e ≤ f c) (hgt : f k ≤ f c) : Hex (swp f c k) lo n c := by
  have hne : c ≠ k := by omega
  refine ⟨fun i e hi hic he hen => ?_, fun p e hp hcp he hen => ?_⟩
  · by_cases hik : i = k
    · rw [hik, swp_k]
      by_cases hec : e = c
      · rw [hec, swp_c hne]; exact hgt
      · rw [swp_o hec (by omega)]; exact hmax e (by omega) hen
    · rw [swp_o hic hik]
      by_cases hek : e = k
      · rw [hek, swp_k]; exact h.2 i c hi (by omega) hc hcn
      · rw [swp_o (show e ≠ c by omega) hek]; exact h.1 i e hi hik he hen
  · have hpk : p = k := by omega
    rw [hpk, swp_k, swp_o (show e ≠ c by omega) (show e ≠ k by omega)]
    exact h.1 c e (by omega) hne he hen
theorem Hex.done1 {f : Nat → Int32} {lo n k : Nat} (h : Hex f lo n k) (hk : n ≤ 2 * k + 1) : Hp f lo n := fun i c hi hc hcn => by
  by_cases e : i = k
  · exfalso; omega
  · exact h.1 i c hi e hc hcn
theorem Hex.done2 {f : Nat → Int32} {lo n k : Nat} (h : Hex f lo n k) (hm : ∀ e, (e = 2 * k + 1 ∨ e = 2 * k + 2) → e < n → f e ≤ f k) : Hp f lo n := fun i c hi hc hcn => by
  by_cases e : i = k
  · rw [e]; exact hm c (by omega) hcn
  · exact h.1 i c hi e hc hcn
theorem mx1 {f : Nat → Int32} {n k : Nat} (h : n ≤ 2 * k + 2) : ∀ e, (e = 2 * k + 1 ∨ e = 2 * k + 2) → e < n → f e ≤ f (2 * k + 1) := fun e he hen => by
  rw [show e = 2 * k + 1 by omega]; exact Int32.le_refl _
theorem mx2 {f : Nat → Int32} {n k : Nat} (h : f (2 * k + 2) ≤ f (2 * k + 1)) : ∀ e, (e = 2 * k + 1 ∨ e = 2 * k + 2) → e < n → f e ≤ f (2 * k + 1) := fun e he hen => by
  rcases he with rfl | rfl
  · exact Int32.le_refl _
  · exact h
theorem mx3 {f : Nat → Int32} {n k : Nat} (h : ¬ f (2 * k + 2) ≤ f (2 * k + 1)) : ∀ e, (e = 2 * k + 1 ∨ e = 2 * k + 2) → e < n → f e ≤ f (2 * k + 2) := fun e he hen => by
  rcases he with rfl | rfl
  · exact Int32.le_of_lt (Int32.not_le.mp h)
  · exact Int32.le_refl _
theorem nlt_of {a b : Nat} (h : ¬ nI a ≤ nI b) (ha : a < 2 ^ 31) (hb : b < 2 ^ 31) : b < a := Nat.not_le.mp (fun z => h ((nI_leI ha hb).mpr z))
theorem two_nI (k : Nat) : (2 : Int32) * nI k + 1 = nI (2 * k + 1) := by
  rw [show (2 : Int32) * nI k = nI (2 * k) from (Int32.ofNat_mul 2 k).symm, nI_1]
theorem pm_nI (k : Nat) : nI k + -1 = nI k - 1 := by rw [Int32.sub_eq_add_neg]
set_option maxHeartbeats 1000000 in
theorem lp_sinks {g z : Nat → Int32} {w : Int64} {a b : Nat → Nat → Int32} {lo n : Nat} (hn : n ≤ 4096) {f0 : Nat → Int32} : ∀ (F k : Nat) (f : Nat → Int32), n ≤ F + k → lo ≤ k → k < n → Hex f lo n k → Sam f0 f n → P0 0 0 0 mX11_sinks (2, [some (.ref 0), some (.int (nI lo)), some (.int (nI n)), some (.int (nI k)), none, none], [], hC g z w a (up2 b 10 f)) (fun r h' => ∃ f', r = none ∧ h' = hC g z w a (up2 b 10 f') ∧ Hp f' lo n ∧ Sam f0 f' n)
  | 0, k, f, hF, _, hkn, _, _ => absurd hkn (by omega)
  | F + 1, k, f, hF, hlo, hkn, hX, hS => by
    refine P0.b GX11_sinks 7 (ob := []) (cf' := (if nI n ≤ (2 * (nI k)) + 1 then 101 else 11, [some (.ref 0), some (.int (nI lo)), some (.int (nI n)), some (.int (nI k)), none, none], [], hC g z w a (up2 b 10 f))) rfl trivial ?_
    rw [show ((2 * (nI k)) + 1 : Int32) = nI (2 * k + 1) from two_nI k]
    refine P0.if (fun h1 => ?_) (fun h1 => ?_)
    · exact P0.rv (by decide +kernel) rfl ⟨f, rfl, rfl, hX.done1 (Nat.le_of_not_lt (fun z => absurd h1 (nI_ge z (by omega)))), hS⟩
    · refine P0.b GX11_sinks 11 (ob := []) (cf' := (if nI n ≤ ((2 * (nI k)) + 1) + 1 then 48 else 26, [some (.ref 0), some (.int (nI lo)), some (.int (nI n)), some (.int (nI k)), some (.int ((2 * (nI k)) + 1)), none], [], hC g z w a (up2 b 10 f))) rfl trivial ?_
      rw [show ((2 * (nI k)) + 1 : Int32) = nI (2 * k + 1) from two_nI k]
      rw [show (nI (2 * k + 1)) + 1 = nI (2 * k + 2) from nI_1 _]
      refine P0.if (fun h2 => ?_) (fun h2 => ?_)
      · refine P0.b GX11_sinks 9 (ob := [vp_in (nI (2 * k + 1)) 4096, vp_in (nI k) 4096]) (cf' := (if f (nI k).toNatClampNeg < f (nI (2 * k + 1)).toNatClampNeg then 65 else 64, [some (.ref 0), some (.int (nI lo)), some (.int (nI n)), some (.int (nI k)), some (.int (nI (2 * k + 1))), none], [], hC g z w a (up2 b 10 f))) rfl ⟨(nI_vp (Nat.lt_of_lt_of_le (nlt_of h1 (by omega) (by omega)) hn) (by decide)), (nI_vp (Nat.lt_of_lt_of_le hkn hn) (by decide)), trivial⟩ ?_
        rw [show (nI (2 * k + 1)).toNatClampNeg = (2 * k + 1) from nI_clamp (by omega)]
        rw [show (nI k).toNatClampNeg = k from nI_clamp (by omega)]
        refine P0.if (fun h3 => ?_) (fun h3 => ?_)
        · refine P0.b GX11_sinks 13 (ob := [vp_in (nI (2 * k + 1)) 4096, vp_in (nI k) 4096, vp_in (nI (2 * k + 1)) 4096]) (cf' := (87, [some (.ref 0), some (.int (nI lo)), some (.int (nI n)), some (.int (nI k)), some (.int (nI (2 * k + 1))), some (.int (f (nI (2 * k + 1)).toNatClampNeg))], [], hC g z w a (up2 b 10 (upd f (nI (2 * k + 1)).toNatClampNeg (f (nI k).toNatClampNeg))))) rfl ⟨(nI_vp (Nat.lt_of_lt_of_le (nlt_of h1 (by omega) (by omega)) hn) (by decide)), (nI_vp (Nat.lt_of_lt_of_le hkn hn) (by decide)), (nI_vp (Nat.lt_of_lt_of_le (nlt_of h1 (by omega) (by omega)) hn) (by decide)), trivial⟩ ?_
          rw [show (nI (2 * k + 1)).toNatClampNeg = (2 * k + 1) from nI_clamp (by omega)]
          rw [show (nI k).toNatClampNeg = k from nI_clamp (by omega)]
          refine P0.b GX11_sinks 5 (ob := [vp_in (nI k) 4096]) (cf' := (95, [some (.ref 0), some (.int (nI lo)), some (.int (nI n)), some (.int (nI k)), some (.int (nI (2 * k + 1))), some (.int (f (2 * k + 1)))], [], hC g z w a (up2 b 10 (upd (upd f (2 * k + 1) (f k)) (nI k).toNatClampNeg (f (2 * k + 1)))))) rfl ⟨(nI_vp (Nat.lt_of_lt_of_le hkn hn) (by decide)), trivial⟩ ?_
          rw [show (nI k).toNatClampNeg = k from nI_clamp (by omega)]
          refine P0.b GX11_sinks 3 (ob := []) (cf' := (2, [some (.ref 0), some (.int (nI lo)), some (.int (nI n)), some (.int (nI (2 * k + 1))), some (.int (nI (2 * k + 1))), some (.int (f (2 * k + 1)))], [], hC g z w a (up2 b 10 (upd (upd f (2 * k + 1) (f k)) k (f (2 * k + 1)))))) rfl trivial ?_
          refine P0.forget (ls' := [some (.ref 0), some (.int (nI lo)), some (.int (nI n)), some (.int (nI (2 * k + 1))), none, none]) ⟨.inr rfl, .inr rfl, .inr rfl, .inr rfl, .inl rfl, .inl rfl, trivial⟩ ?_
          exact lp_sinks hn F (2 * k + 1) (swp f (2 * k + 1) k) (by omega) (by omega) (nlt_of h1 (by omega) (by omega)) (hX.step hlo (.inl rfl) (nlt_of h1 (by omega) (by omega)) (mx1 (Nat.le_of_not_lt (fun z => absurd h2 (nI_ge z (by omega))))) (Int32.le_of_lt h3)) (hS.trans (Sam.sw (by omega) (nlt_of h1 (by omega) (by omega)) hkn))
        · exact P0.rv (by decide +kernel) rfl ⟨f, rfl, rfl, hX.done2 (fun e he hen => Int32.le_trans (mx1 (Nat.le_of_not_lt (fun z => absurd h2 (nI_ge z (by omega)))) e he hen) (Int32.not_lt.mp h3)), hS⟩
      · refine P0.b GX11_sinks 11 (ob := [vp_in ((nI (2 * k + 1)) + 1) 4096, vp_in (nI (2 * k + 1)) 4096]) (cf' := (if f ((nI (2 * k + 1)) + 1).toNatClampNeg ≤ f (nI (2 * k + 1)).toNatClampNeg then 48 else 45, [some (.ref 0), some (.int (nI lo)), some (.int (nI n)), some (.int (nI k)), some (.int (nI (2 * k + 1))), none], [], hC g z w a (up2 b 10 f))) rfl ⟨(by rw [show (nI (2 * k + 1)) + 1 = nI (2 * k + 2) from nI_1 _]; exact nI_vp (Nat.lt_of_lt_of_le (nlt_of h2 (by omega) (by omega)) hn) (by decide)), (nI_vp (Nat.lt_of_lt_of_le (nlt_of h1 (by omega) (by omega)) hn) (by decide)), trivial⟩ ?_
        rw [show (nI (2 * k + 1)) + 1 = nI (2 * k + 2) from nI_1 _]
        rw [show (nI (2 * k + 2)).toNatClampNeg = (2 * k + 2) from nI_clamp (by omega)]
        rw [show (nI (2 * k + 1)).toNatClampNeg = (2 * k + 1) from nI_clamp (by omega)]
        refine P0.if (fun h4 => ?_) (fun h4 => ?_)
        · refine P0.b GX11_sinks 9 (ob := [vp_in (nI (2 * k + 1)) 4096, vp_in (nI k) 4096]) (cf' := (if f (nI k).toNatClampNeg < f (nI (2 * k + 1)).toNatClampNeg then 65 else 64, [some (.ref 0), some (.int (nI lo)), some (.int (nI n)), some (.int (nI k)), some (.int (nI (2 * k + 1))), none], [], hC g z w a (up2 b 10 f))) rfl ⟨(nI_vp (Nat.lt_of_lt_of_le (nlt_of h1 (by omega) (by omega)) hn) (by decide)), (nI_vp (Nat.lt_of_lt_of_le hkn hn) (by decide)), trivial⟩ ?_
          rw [show (nI (2 * k + 1)).toNatClampNeg = (2 * k + 1) from nI_clamp (by omega)]
          rw [show (nI k).toNatClampNeg = k from nI_clamp (by omega)]
          refine P0.if (fun h5 => ?_) (fun h5 => ?_)
          · refine P0.b GX11_sinks 13 (ob := [vp_in (nI (2 * k + 1)) 4096, vp_in (nI k) 4096, vp_in (nI (2 * k + 1)) 4096]) (cf' := (87, [some (.ref 0), some (.int (nI lo)), some (.int (nI n)), some (.int (nI k)), some (.int (nI (2 * k + 1))), some (.int (f (nI (2 * k + 1)).toNatClampNeg))], [], hC g z w a (up2 b 10 (upd f (nI (2 * k + 1)).toNatClampNeg (f (nI k).toNatClampNeg))))) rfl ⟨(nI_vp (Nat.lt_of_lt_of_le (nlt_of h1 (by omega) (by omega)) hn) (by decide)), (nI_vp (Nat.lt_of_lt_of_le hkn hn) (by decide)), (nI_vp (Nat.lt_of_lt_of_le (nlt_of h1 (by omega) (by omega)) hn) (by decide)), trivial⟩ ?_
            rw [show (nI (2 * k + 1)).toNatClampNeg = (2 * k + 1) from nI_clamp (by omega)]
            rw [show (nI k).toNatClampNeg = k from nI_clamp (by omega)]
            refine P0.b GX11_sinks 5 (ob := [vp_in (nI k) 4096]) (cf' := (95, [some (.ref 0), some (.int (nI lo)), some (.int (nI n)), some (.int (nI k)), some (.int (nI (2 * k + 1))), some (.int (f (2 * k + 1)))], [], hC g z w a (up2 b 10 (upd (upd f (2 * k + 1) (f k)) (nI k).toNatClampNeg (f (2 * k + 1)))))) rfl ⟨(nI_vp (Nat.lt_of_lt_of_le hkn hn) (by decide)), trivial⟩ ?_
            rw [show (nI k).toNatClampNeg = k from nI_clamp (by omega)]
            refine P0.b GX11_sinks 3 (ob := []) (cf' := (2, [some (.ref 0), some (.int (nI lo)), some (.int (nI n)), some (.int (nI (2 * k + 1))), some (.int (nI (2 * k + 1))), some (.int (f (2 * k + 1)))], [], hC g z w a (up2 b 10 (upd (upd f (2 * k + 1) (f k)) k (f (2 * k + 1)))))) rfl trivial ?_
            refine P0.forget (ls' := [some (.ref 0), some (.int (nI lo)), some (.int (nI n)), some (.int (nI (2 * k + 1))), none, none]) ⟨.inr rfl, .inr rfl, .inr rfl, .inr rfl, .inl rfl, .inl rfl, trivial⟩ ?_
            exact lp_sinks hn F (2 * k + 1) (swp f (2 * k + 1) k) (by omega) (by omega) (nlt_of h1 (by omega) (by omega)) (hX.step hlo (.inl rfl) (nlt_of h1 (by omega) (by omega)) (mx2 h4) (Int32.le_of_lt h5)) (hS.trans (Sam.sw (by omega) (nlt_of h1 (by omega) (by omega)) hkn))
          · exact P0.rv (by decide +kernel) rfl ⟨f, rfl, rfl, hX.done2 (fun e he hen => Int32.le_trans (mx2 h4 e he hen) (Int32.not_lt.mp h5)), hS⟩
        · refine P0.b GX11_sinks 10 (ob := [vp_in ((nI (2 * k + 1)) + 1) 4096, vp_in (nI k) 4096]) (cf' := (if f (nI k).toNatClampNeg < f ((nI (2 * k + 1)) + 1).toNatClampNeg then 65 else 64, [some (.ref 0), some (.int (nI lo)), some (.int (nI n)), some (.int (nI k)), some (.int ((nI (2 * k + 1)) + 1)), none], [], hC g z w a (up2 b 10 f))) rfl ⟨(by rw [show (nI (2 * k + 1)) + 1 = nI (2 * k + 2) from nI_1 _]; exact nI_vp (Nat.lt_of_lt_of_le (nlt_of h2 (by omega) (by omega)) hn) (by decide)), (nI_vp (Nat.lt_of_lt_of_le hkn hn) (by decide)), trivial⟩ ?_
          rw [show (nI (2 * k + 1)) + 1 = nI (2 * k + 2) from nI_1 _]
          rw [show (nI (2 * k + 2)).toNatClampNeg = (2 * k + 2) from nI_clamp (by omega)]
          rw [show (nI k).toNatClampNeg = k from nI_clamp (by omega)]
          refine P0.if (fun h6 => ?_) (fun h6 => ?_)
          · refine P0.b GX11_sinks 13 (ob := [vp_in (nI (2 * k + 2)) 4096, vp_in (nI k) 4096, vp_in (nI (2 * k + 2)) 4096]) (cf' := (87, [some (.ref 0), some (.int (nI lo)), some (.int (nI n)), some (.int (nI k)), some (.int (nI (2 * k + 2))), some (.int (f (nI (2 * k + 2)).toNatClampNeg))], [], hC g z w a (up2 b 10 (upd f (nI (2 * k + 2)).toNatClampNeg (f (nI k).toNatClampNeg))))) rfl ⟨(nI_vp (Nat.lt_of_lt_of_le (nlt_of h2 (by omega) (by omega)) hn) (by decide)), (nI_vp (Nat.lt_of_lt_of_le hkn hn) (by decide)), (nI_vp (Nat.lt_of_lt_of_le (nlt_of h2 (by omega) (by omega)) hn) (by decide)), trivial⟩ ?_
            rw [show (nI (2 * k + 2)).toNatClampNeg = (2 * k + 2) from nI_clamp (by omega)]
            rw [show (nI k).toNatClampNeg = k from nI_clamp (by omega)]
            refine P0.b GX11_sinks 5 (ob := [vp_in (nI k) 4096]) (cf' := (95, [some (.ref 0), some (.int (nI lo)), some (.int (nI n)), some (.int (nI k)), some (.int (nI (2 * k + 2))), some (.int (f (2 * k + 2)))], [], hC g z w a (up2 b 10 (upd (upd f (2 * k + 2) (f k)) (nI k).toNatClampNeg (f (2 * k + 2)))))) rfl ⟨(nI_vp (Nat.lt_of_lt_of_le hkn hn) (by decide)), trivial⟩ ?_
            rw [show (nI k).toNatClampNeg = k from nI_clamp (by omega)]
            refine P0.b GX11_sinks 3 (ob := []) (cf' := (2, [some (.ref 0), some (.int (nI lo)), some (.int (nI n)), some (.int (nI (2 * k + 2))), some (.int (nI (2 * k + 2))), some (.int (f (2 * k + 2)))], [], hC g z w a (up2 b 10 (upd (upd f (2 * k + 2) (f k)) k (f (2 * k + 2)))))) rfl trivial ?_
            refine P0.forget (ls' := [some (.ref 0), some (.int (nI lo)), some (.int (nI n)), some (.int (nI (2 * k + 2))), none, none]) ⟨.inr rfl, .inr rfl, .inr rfl, .inr rfl, .inl rfl, .inl rfl, trivial⟩ ?_
            exact lp_sinks hn F (2 * k + 2) (swp f (2 * k + 2) k) (by omega) (by omega) (nlt_of h2 (by omega) (by omega)) (hX.step hlo (.inr rfl) (nlt_of h2 (by omega) (by omega)) (mx3 h4) (Int32.le_of_lt h6)) (hS.trans (Sam.sw (by omega) (nlt_of h2 (by omega) (by omega)) hkn))
          · exact P0.rv (by decide +kernel) rfl ⟨f, rfl, rfl, hX.done2 (fun e he hen => Int32.le_trans (mx3 h4 e he hen) (Int32.not_lt.mp h6)), hS⟩
theorem e_X11_sinks {g z : Nat → Int32} {w : Int64} {a b : Nat → Nat → Int32} {lo n : Nat} (hn : n ≤ 4096) {f : Nat → Int32} (hk : lo < n) (hX : Hex f lo n lo) : P0 0 0 0 mX11_sinks (0, ent 6 [.ref 0, .int (nI lo), .int (nI n)], [], hC g z w a (up2 b 10 f)) (fun r h' => ∃ f', r = none ∧ h' = hC g z w a (up2 b 10 f') ∧ Hp f' lo n ∧ Sam f f' n) := by
  refine P0.b GX11_sinks 2 (ob := []) (cf' := (2, [some (.ref 0), some (.int (nI lo)), some (.int (nI n)), some (.int (nI lo)), none, none], [], hC g z w a (up2 b 10 f))) rfl trivial ?_
  exact lp_sinks hn n lo f (by omega) (Nat.le_refl _) hk hX Sam.rf
theorem Hp.top {f : Nat → Int32} {n : Nat} (h : Hp f 0 n) : ∀ i, i < n → f i ≤ f 0
  | 0, _ => Int32.le_refl _
  | i + 1, hi => Int32.le_trans (h (i / 2) (i + 1) (Nat.zero_le _) (by omega) hi) (Hp.top h (i / 2) (by omega))
theorem Hp.ex {f : Nat → Int32} {j n : Nat} (h : Hp f (j + 1) n) : Hex f j n j := ⟨fun i c hi hne hc hcn => h i c (by omega) hc hcn, fun p c hp hj _ _ => by exfalso; omega⟩
/-- what stands from j on is sorted, and not less than what stands ahead -/
def Srt (f : Nat → Int32) (j n : Nat) : Prop := (∀ i k, j ≤ i → i ≤ k → k < n → f i ≤ f k) ∧ ∀ i k, i < j → j ≤ k → k < n → f i ≤ f k
theorem Hp.sw {f : Nat → Int32} {k : Nat} (h : Hp f 0 (k + 1)) : Hex (swp f 0 k) 0 k 0 := ⟨fun i c _ hi hc hcn => by rw [swp_o (show c ≠ 0 by omega) (by omega), swp_o (show i ≠ 0 from hi) (by omega)]; exact h i c (Nat.zero_le _) hc (by omega), fun p c _ hp _ _ => by exfalso; omega⟩
theorem Srt.step {f f2 : Nat → Int32} {k n : Nat} (hk : 0 < k) (hn : k < n) (h : Srt f (k + 1) n) (hp : Hp f 0 (k + 1)) (hs : Sam (swp f 0 k) f2 k) : Srt f2 k n := by
  have e0 : f2 k = f 0 := (hs.2 k (Nat.le_refl k)).trans swp_k
  have e1 : ∀ j, k < j → f2 j = f j := fun j hj => (hs.2 j (by omega)).trans (swp_o (by omega) (by omega))
  have e2 : ∀ i, i < k → ∃ j, j < k + 1 ∧ f2 i = f j := fun i hi => by
    obtain ⟨j, hj, q⟩ := hs.val hi
    by_cases z : j = 0
    · rw [z, swp_c (by omega)] at q; exact ⟨k, by omega, q.symm⟩
    · rw [swp_o z (by omega)] at q; exact ⟨j, by omega, q.symm⟩
  refine ⟨fun i j hi hij hj => ?_, fun i j hi hij hj => ?_⟩
  · by_cases z : i = k
    · by_cases y : j = k
      · rw [z, y]; exact Int32.le_refl _
      · rw [z, e0, e1 j (by omega)]; exact h.2 0 j (by omega) (by omega) hj
    · rw [e1 i (by omega), e1 j (by omega)]; exact h.1 i j (by omega) hij hj
  · obtain ⟨i1, h1, q⟩ := e2 i hi
    rw [q]
    by_cases y : j = k
    · rw [y, e0]; exact hp.top i1 h1
    · rw [e1 j (by omega)]; exact h.2 i1 j h1 (by omega) hj
set_option maxHeartbeats 1000000 in
theorem lp_s2 {g z : Nat → Int32} {w : Int64} {a b : Nat → Nat → Int32} {n : Nat} (hn : n ≤ 4096) {f0 : Nat → Int32} : ∀ (j : Nat) (f : Nat → Int32), j ≤ n → Hp f 0 j → Srt f j n → Sam f0 f n → P0 1 0 0 mX11_sorts1 (26, [some (.ref 0), some (.int (nI n)), some (.int (nI j - 1)), none], [], hC g z w a (up2 b 10 f)) (fun r h' => ∃ f', r = none ∧ h' = hC g z w a (up2 b 10 f') ∧ Sam f0 f' n ∧ ∀ i k, i ≤ k → k < n → f' i ≤ f' k)
  | 0, f, hj, hp, hT, hS => by
    have hso : ∀ i k, i ≤ k → k < n → f i ≤ f k := fun i k hi hk => hT.1 i k (Nat.zero_le _) hi hk
    rw [show nI 0 - 1 = (-1 : Int32) from by decide]
    refine P0.b GX11_sorts1 2 (ob := []) (cf' := (68, [some (.ref 0), some (.int (nI n)), some (.int (-1)), none], [], hC g z w a (up2 b 10 f))) rfl trivial ?_
    exact P0.rv (by decide +kernel) rfl ⟨f, rfl, rfl, hS, hso⟩
  | 1, f, hj, hp, hT, hS => by
    have hso : ∀ i k, i ≤ k → k < n → f i ≤ f k := fun i k hi hk => by
      by_cases e : i = 0
      · by_cases e2 : k = 0
        · rw [e, e2]; exact Int32.le_refl _
        · exact hT.2 i k (by omega) (by omega) hk
      · exact hT.1 i k (by omega) hi hk
    rw [show nI 1 - 1 = (0 : Int32) from by decide]
    refine P0.b GX11_sorts1 2 (ob := []) (cf' := (68, [some (.ref 0), some (.int (nI n)), some (.int 0), none], [], hC g z w a (up2 b 10 f))) rfl trivial ?_
    exact P0.rv (by decide +kernel) rfl ⟨f, rfl, rfl, hS, hso⟩
  | j + 1 + 1, f, hj, hp, hT, hS => by
    rw [show nI (j + 1 + 1) - 1 = nI (j + 1) from nI_pred _]
    refine P0.b GX11_sorts1 2 (ob := []) (cf' := (if nI (j + 1) ≤ 0 then 68 else 30, [some (.ref 0), some (.int (nI n)), some (.int (nI (j + 1))), none], [], hC g z w a (up2 b 10 f))) rfl trivial ?_
    rw [if_neg (show ¬ (nI (j + 1) ≤ 0) from nI_nle (by omega) (by omega))]
    refine P0.b GX11_sorts1 13 (ob := [vp_in 0 4096, vp_in (nI (j + 1)) 4096, vp_in 0 4096]) (cf' := (49, [some (.ref 0), some (.int (nI n)), some (.int (nI (j + 1))), some (.int (f 0))], [], hC g z w a (up2 b 10 (upd f 0 (f (nI (j + 1)).toNatClampNeg))))) rfl ⟨(show vp_in 0 4096 from nI_vp (i := 0) (by decide) (by decide)), (nI_vp (by omega) (by decide)), (show vp_in 0 4096 from nI_vp (i := 0) (by decide) (by decide)), trivial⟩ ?_
    rw [show (nI (j + 1)).toNatClampNeg = (j + 1) from nI_clamp (by omega)]
    refine P0.b GX11_sorts1 5 (ob := [vp_in (nI (j + 1)) 4096]) (cf' := (56, [some (.ref 0), some (.int (nI n)), some (.int (nI (j + 1))), some (.int (f 0))], [], hC g z w a (up2 b 10 (upd (upd f 0 (f (j + 1))) (nI (j + 1)).toNatClampNeg (f 0))))) rfl ⟨(nI_vp (by omega) (by decide)), trivial⟩ ?_
    rw [show (nI (j + 1)).toNatClampNeg = (j + 1) from nI_clamp (by omega)]
    refine P0.b GX11_sorts1 3 (ob := []) (cf' := (59, [some (.ref 0), some (.int (nI n)), some (.int (nI (j + 1))), some (.int (f 0))], [.int (nI (j + 1)), .int 0, .ref 0], hC g z w a (up2 b 10 (upd (upd f 0 (f (j + 1))) (j + 1) (f 0))))) rfl trivial ?_
    show P0 _ _ _ _ (59, [some (.ref 0), some (.int (nI n)), some (.int (nI (j + 1))), some (.int (f 0))], [.int (nI (j + 1)), .int (nI 0), .ref 0], hC g z w a (up2 b 10 (swp f 0 (j + 1)))) _
    refine P0.cs (as := [.ref 0, .int (nI 0), .int (nI (j + 1))]) (rest := []) GX11_sinks kX11_sorts1_59 rfl ⟨_, _, rfl, rfl, .inl ⟨_, _, _, _, rfl, rfl⟩⟩ (Nat.le_of_ble_eq_true rfl) (Nat.le_of_ble_eq_true rfl) (P0.mono (e_X11_sinks (n := j + 1) (by omega) (f := swp f 0 (j + 1)) (by omega) hp.sw) (Nat.le_of_ble_eq_true rfl) (Nat.zero_le _) (Nat.zero_le _) (fun _ _ q => q)) (Nat.le_of_ble_eq_true rfl) (fun _ _ ⟨_, _, q, _⟩ => q ▸ rfl) ?_
    rintro _ _ ⟨f47, rfl, rfl, hp47, hs47⟩
    show P0 _ _ _ _ (62, [some (.ref 0), some (.int (nI n)), some (.int (nI (j + 1))), some (.int (f 0))], [], hC g z w a (up2 b 10 f47)) _
    refine P0.b GX11_sorts1 2 (ob := []) (cf' := (26, [some (.ref 0), some (.int (nI n)), some (.int ((nI (j + 1)) + (-1))), some (.int (f 0))], [], hC g z w a (up2 b 10 f47))) rfl trivial ?_
    rw [show (nI (j + 1)) + (-1) = nI (j + 1) - 1 from pm_nI _]
    refine P0.forget (ls' := [some (.ref 0), some (.int (nI n)), some (.int (nI (j + 1) - 1)), none]) ⟨.inr rfl, .inr rfl, .inr rfl, .inl rfl, trivial⟩ ?_
    exact lp_s2 hn (j + 1) f47 (by omega) hp47 (hT.step (by omega) (by omega) hp hs47) (hS.trans ((Sam.sw (by omega) (by omega) (by omega)).trans (hs47.up (by omega))))
set_option maxHeartbeats 1000000 in
theorem lp_s1 {g z : Nat → Int32} {w : Int64} {a b : Nat → Nat → Int32} {n : Nat} (hn : n ≤ 4096) {f0 : Nat → Int32} : ∀ (j : Nat) (f : Nat → Int32), 2 * j ≤ n → Hp f j n → Sam f0 f n → P0 1 0 0 mX11_sorts1 (6, [some (.ref 0), some (.int (nI n)), some (.int (nI j - 1)), none], [], hC g z w a (up2 b 10 f)) (fun r h' => ∃ f', r = none ∧ h' = hC g z w a (up2 b 10 f') ∧ Sam f0 f' n ∧ ∀ i k, i ≤ k → k < n → f' i ≤ f' k)
  | 0, f, hj, hp, hS => by
    rw [show nI 0 - 1 = (-1 : Int32) from by decide]
    refine P0.b GX11_sorts1 6 (ob := []) (cf' := (26, [some (.ref 0), some (.int (nI n)), some (.int ((nI n) - 1)), none], [], hC g z w a (up2 b 10 f))) rfl trivial ?_
    exact lp_s2 hn n f (Nat.le_refl _) hp ⟨fun i k h1 h2 h3 => absurd (Nat.le_trans h1 h2) (by omega), fun i k _ h1 h2 => absurd h1 (by omega)⟩ hS
  | j + 1, f, hj, hp, hS => by
    rw [show nI (j + 1) - 1 = nI j from nI_pred _]
    refine P0.b GX11_sorts1 2 (ob := []) (cf' := (if nI j < 0 then 22 else 10, [some (.ref 0), some (.int (nI n)), some (.int (nI j)), none], [], hC g z w a (up2 b 10 f))) rfl trivial ?_
    rw [if_neg (show ¬ (nI j < 0) from nI_pos (by omega))]
    refine P0.b GX11_sorts1 3 (ob := []) (cf' := (13, [some (.ref 0), some (.int (nI n)), some (.int (nI j)), none], [.int (nI n), .int (nI j), .ref 0], hC g z w a (up2 b 10 f))) rfl trivial ?_
    refine P0.cs (as := [.ref 0, .int (nI j), .int (nI n)]) (rest := []) GX11_sinks kX11_sorts1_13 rfl ⟨_, _, rfl, rfl, .inl ⟨_, _, _, _, rfl, rfl⟩⟩ (Nat.le_of_ble_eq_true rfl) (Nat.le_of_ble_eq_true rfl) (P0.mono (e_X11_sinks hn (f := f) (by omega) hp.ex) (Nat.le_of_ble_eq_true rfl) (Nat.zero_le _) (Nat.zero_le _) (fun _ _ q => q)) (Nat.le_of_ble_eq_true rfl) (fun _ _ ⟨_, _, q, _⟩ => q ▸ rfl) ?_
    rintro _ _ ⟨f48, rfl, rfl, hp48, hs48⟩
    show P0 _ _ _ _ (16, [some (.ref 0), some (.int (nI n)), some (.int (nI j)), none], [], hC g z w a (up2 b 10 f48)) _
    refine P0.b GX11_sorts1 2 (ob := []) (cf' := (6, [some (.ref 0), some (.int (nI n)), some (.int ((nI j) + (-1))), none], [], hC g z w a (up2 b 10 f48))) rfl trivial ?_
    rw [show (nI j) + (-1) = nI j - 1 from pm_nI _]
    exact lp_s1 hn j f48 (by omega) hp48 (hS.trans hs48)
theorem half_nI (n : Nat) (h : n ≤ 4096) : nI n / 2 = nI (n / 2) := pk_div (by omega) (by decide) (by decide)
theorem e_X11_sorts1 {g z : Nat → Int32} {w : Int64} {a b : Nat → Nat → Int32} {n : Nat} (hn : n ≤ 4096) (f0 : Nat → Int32) : P0 1 0 0 mX11_sorts1 (0, ent 4 [.ref 0, .int (nI n)], [], hC g z w a (up2 b 10 f0)) (fun r h' => ∃ f', r = none ∧ h' = hC g z w a (up2 b 10 f') ∧ Sam f0 f' n ∧ ∀ i k, i ≤ k → k < n → f' i ≤ f' k) := by
  refine P0.b GX11_sorts1 6 (ob := [¬ (2 : Int32) = 0]) (cf' := (6, [some (.ref 0), some (.int (nI n)), some (.int (((nI n) / 2) - 1)), none], [], hC g z w a (up2 b 10 f0))) rfl ⟨(by decide), trivial⟩ ?_
  rw [show (nI n) / 2 = nI (n / 2) from half_nI n hn]
  exact lp_s1 hn (n / 2) f0 (by omega) (fun i c hi hc hcn => by exfalso; omega) Sam.rf
