/-! ===== laid by program (wip/tools) ===== -/
/-- a counted loop that may be left: at i it is left, if P i -/
theorem P0.loopE {d mc ms : Nat} {M : MI} {Q : Option Value → PH → Prop} {α : Type} {N : Nat} (P : Nat → Prop) (f : Nat → α → α) (a0 : α) (S : Int32 → α → CF) (hd : ∀ i, i < N → (∀ j, j < i → ¬ P j) → (∀ x v, ¬ P i → x = nI (i + 1) → v = f i (it f i a0) → P0 d mc ms M (S x v) Q) → P0 d mc ms M (S (nI i) (it f i a0)) Q) (he : (∀ j, j < N → ¬ P j) → P0 d mc ms M (S (nI N) (it f N a0)) Q) : ∀ x v, x = nI 0 → v = a0 → P0 d mc ms M (S x v) Q := by
  have : ∀ k i, i + k = N → (∀ j, j < i → ¬ P j) → P0 d mc ms M (S (nI i) (it f i a0)) Q := by
    intro k
    induction k with
    | zero => intro i h hp; have : i = N := by omega
              subst this; exact he hp
    | succ k ih =>
      intro i h hp
      refine hd i (by omega) hp (fun x v hn hx hv => ?_)
      rw [hx, hv]
      refine ih (i + 1) (by omega) (fun j hj => ?_)
      by_cases e : j = i
      · subst e; exact hn
      · exact hp j (by omega)
  intro x v hx hv
  rw [hx, hv]
  exact this N 0 (by omega) (fun j hj => absurd hj (Nat.not_lt_zero j))
theorem P0.loopEZ {d mc ms : Nat} {M : MI} {Q : Option Value → PH → Prop} {α : Type} {N : Nat} (P : Nat → Prop) (f : Nat → α → α) (a0 : α) (S : Int32 → α → (Nat → Int32) → Int64 → CF) (hd : ∀ i, i < N → (∀ j, j < i → ¬ P j) → ∀ z w, (∀ x v z w, ¬ P i → x = nI (i + 1) → v = f i (it f i a0) → P0 d mc ms M (S x v z w) Q) → P0 d mc ms M (S (nI i) (it f i a0) z w) Q) (he : (∀ j, j < N → ¬ P j) → ∀ z w, P0 d mc ms M (S (nI N) (it f N a0) z w) Q) : ∀ x v z w, x = nI 0 → v = a0 → P0 d mc ms M (S x v z w) Q := by
  have : ∀ k i, i + k = N → (∀ j, j < i → ¬ P j) → ∀ z w, P0 d mc ms M (S (nI i) (it f i a0) z w) Q := by
    intro k
    induction k with
    | zero => intro i h hp z w; have : i = N := by omega
              subst this; exact he hp z w
    | succ k ih =>
      intro i h hp z w
      refine hd i (by omega) hp z w (fun x v z w hn hx hv => ?_)
      rw [hx, hv]
      refine ih (i + 1) (by omega) (fun j hj => ?_) z w
      by_cases e : j = i
      · subst e; exact hn
      · exact hp j (by omega)
  intro x v z w hx hv
  rw [hx, hv]
  exact this N 0 (by omega) (fun j hj => absurd hj (Nat.not_lt_zero j)) z w
/-- the first below N of which it holds -/
def fst (P : Nat → Bool) (N : Nat) : Option Nat := (List.range N).find? P
theorem fst_none {P : Nat → Bool} {N : Nat} (h : ∀ j, j < N → ¬ P j = true) : fst P N = none := List.find?_eq_none.mpr (fun x hx => h x (List.mem_range.mp hx))
theorem fst_some {P : Nat → Bool} {N i : Nat} (hi : i < N) (h : ∀ j, j < i → ¬ P j = true) (hp : P i = true) : fst P N = some i := by
  unfold fst
  rw [List.find?_eq_some_iff_append]
  refine ⟨hp, List.range i, (List.range' (i + 1) (N - (i + 1))), ?_, fun x hx => by simpa using h x (List.mem_range.mp hx)⟩
  rw [List.range_eq_range', List.range_eq_range']
  have e : List.range' 0 i ++ List.range' (0 + 1 * i) (N - i) = List.range' 0 N := by rw [List.range'_append]; congr 1; omega
  rw [← e]
  congr 1
  rw [show N - i = (N - (i + 1)) + 1 by omega, List.range'_succ]
  simp
def fitF (R : Nat → Int32) (set : Int32) : Nat → Int32 → Int32 := fun l v => if R (nI l).toNatClampNeg &&& set = set then v + -1 else v
def fitP (R : Nat → Int32) (set k : Int32) (l : Nat) : Bool := decide (R (nI l).toNatClampNeg &&& set = set) && decide (it (fitF R set) l k = 0)
def fitV (R : Nat → Int32) (set k : Int32) : Int32 := match fst (fitP R set k) 4096 with
  | some l => digV (nI l)
  | none => -1
theorem fitF_y {R : Nat → Int32} {set : Int32} {l : Nat} {v : Int32} (h : R (nI l).toNatClampNeg &&& set = set) : v + -1 = fitF R set l v := (if_pos h).symm
theorem fitF_n {R : Nat → Int32} {set : Int32} {l : Nat} {v : Int32} (h : ¬ R (nI l).toNatClampNeg &&& set = set) : v = fitF R set l v := (if_neg h).symm
theorem fitP_a {R : Nat → Int32} {set k : Int32} {l : Nat} (h : ¬ R (nI l).toNatClampNeg &&& set = set) : ¬ fitP R set k l = true := by simp [fitP, h]
theorem fitP_b {R : Nat → Int32} {set k : Int32} {l : Nat} (h : ¬ it (fitF R set) l k = 0) : ¬ fitP R set k l = true := by simp [fitP, h]
theorem fitP_c {R : Nat → Int32} {set k : Int32} {l : Nat} (h1 : R (nI l).toNatClampNeg &&& set = set) (h2 : it (fitF R set) l k = 0) : fitP R set k l = true := by simp [fitP, h1, h2]
theorem fitV_some {R : Nat → Int32} {set k : Int32} {l : Nat} (hl : l < 4096) (h : ∀ j, j < l → ¬ fitP R set k j = true) (hp : fitP R set k l = true) : fitV R set k = digV (nI l) := by unfold fitV; rw [fst_some hl h hp]
theorem fitV_none {R : Nat → Int32} {set k : Int32} (h : ∀ j, j < 4096 → ¬ fitP R set k j = true) : fitV R set k = -1 := by unfold fitV; rw [fst_none h]
set_option maxHeartbeats 1000000 in
theorem e_X11_fit {g z : Nat → Int32} {w : Int64} {a b : Nat → Nat → Int32} {t m : Nat} (hr : g 4 = nI t) (hS : Std1 a t) (hm : g 11 = nI m) (hm6 : m ≤ 6) (hW : ∀ i, i < m → WOK a (nI i)) (k : Int32) : P0 46 0 0 mX11_fit (0, ent 5 [.ref 0, .int k], [], hC g z w a b) (fun r h' => ∃ z' w' b', r = some (.int (if k < 0 then -2 else fitV (gatV a t (g 7) m (b 7) (b 8)) (sentV (a 6) m) k)) ∧ h' = hC g z' w' a b') := by
  refine P0.b GX11_fit 2 (ob := []) (cf' := (if 0 ≤ k then 7 else 4, [some (.ref 0), some (.int k), none, none, none], [], hC g z w a b)) rfl trivial ?_
  refine P0.if (fun h1 => ?_) (fun h1 => ?_)
  · refine P0.b GX11_fit 1 (ob := []) (cf' := (8, [some (.ref 0), some (.int k), none, none, none], [.ref 0], hC g z w a b)) rfl trivial ?_
    refine P0.cs (as := [.ref 0]) (rest := []) GX11_gathers kX11_fit_8 rfl ⟨_, _, rfl, rfl, .inl ⟨_, _, _, _, rfl, rfl⟩⟩ (Nat.le_of_ble_eq_true rfl) (Nat.le_of_ble_eq_true rfl) (P0.mono (e_gathers hr hS hm hm6 hW rfl rfl) (Nat.le_of_ble_eq_true rfl) (Nat.zero_le _) (Nat.zero_le _) (fun _ _ q => q)) (Nat.le_of_ble_eq_true rfl) (fun _ _ ⟨_, _, _, _, _, _, _, q⟩ => q ▸ rfl) ?_
    rintro _ _ ⟨z38, w38, T, R, hT, hR, rfl, rfl⟩
    show P0 _ _ _ _ (11, [some (.ref 0), some (.int k), none, none, none], [], hC g z38 w38 a (up2 (up2 b 7 T) 8 R)) _
    refine P0.b GX11_fit 1 (ob := []) (cf' := (12, [some (.ref 0), some (.int k), none, none, none], [.ref 0], hC g z38 w38 a (up2 (up2 b 7 T) 8 R))) rfl trivial ?_
    refine P0.cd (d0 := 0) (as := [.ref 0]) (rest := []) (r1 := some (.int (sentV (a 6) m))) (h1 := hC g z38 w38 a (up2 (up2 b 7 T) 8 R)) (st' := [.int (sentV (a 6) m)]) GX11_sentSet kX11_fit_12 rfl ⟨_, _, rfl, rfl, .inl ⟨_, _, _, _, rfl, rfl⟩⟩ (Nat.le_of_ble_eq_true rfl) (Nat.le_of_ble_eq_true rfl) (e_X11_sentSet hm hm6) (Nat.le_of_ble_eq_true rfl) rfl (Nat.le_of_ble_eq_true rfl) rfl ?_
    refine P0.b GX11_fit 5 (ob := []) (cf' := (21, [some (.ref 0), some (.int k), some (.int (sentV (a 6) m)), some (.int k), some (.int 0)], [], hC g z38 w38 a (up2 (up2 b 7 T) 8 R))) rfl trivial ?_
    refine P0.loopE (N := 4096) (fun l => fitP (R) (sentV (a 6) m) k l = true) (fitF (R) (sentV (a 6) m)) k (fun x v => (21, [some (.ref 0), some (.int k), some (.int (sentV (a 6) m)), some (.int v), some (.int x)], [], hC g z38 w38 a (up2 (up2 b 7 T) 8 R))) (fun i39 hi39 hp39 hk39 => ?_) (fun hp39 => ?_) 0 k nI_0.symm rfl
    · show P0 _ _ _ _ (21, [some (.ref 0), some (.int k), some (.int (sentV (a 6) m)), some (.int (it (fitF (R) (sentV (a 6) m)) i39 k)), some (.int (nI i39))], [], hC g z38 w38 a (up2 (up2 b 7 T) 8 R)) _
      refine P0.b GX11_fit 3 (ob := []) (cf' := (if 4096 ≤ nI i39 then 61 else 29, [some (.ref 0), some (.int k), some (.int (sentV (a 6) m)), some (.int (it (fitF (R) (sentV (a 6) m)) i39 k)), some (.int (nI i39))], [], hC g z38 w38 a (up2 (up2 b 7 T) 8 R))) rfl trivial ?_
      rw [if_neg (show ¬ (4096 ≤ nI i39) from nI_ge hi39 (by decide))]
      refine P0.b GX11_fit 8 (ob := [vp_in (nI i39) 4096]) (cf' := (if (R (nI i39).toNatClampNeg) &&& (sentV (a 6) m) = sentV (a 6) m then 42 else 55, [some (.ref 0), some (.int k), some (.int (sentV (a 6) m)), some (.int (it (fitF (R) (sentV (a 6) m)) i39 k)), some (.int (nI i39))], [], hC g z38 w38 a (up2 (up2 b 7 T) 8 R))) rfl ⟨(nI_vp (by assumption) (by decide)), trivial⟩ ?_
      refine P0.if (fun h2 => ?_) (fun h2 => ?_)
      · refine P0.b GX11_fit 2 (ob := []) (cf' := (if it (fitF (R) (sentV (a 6) m)) i39 k = 0 then 46 else 52, [some (.ref 0), some (.int k), some (.int (sentV (a 6) m)), some (.int (it (fitF (R) (sentV (a 6) m)) i39 k)), some (.int (nI i39))], [], hC g z38 w38 a (up2 (up2 b 7 T) 8 R))) rfl trivial ?_
        refine P0.if (fun h3 => ?_) (fun h3 => ?_)
        · refine P0.b GX11_fit 1 (ob := []) (cf' := (48, [some (.ref 0), some (.int k), some (.int (sentV (a 6) m)), some (.int (it (fitF (R) (sentV (a 6) m)) i39 k)), some (.int (nI i39))], [.int (nI i39)], hC g z38 w38 a (up2 (up2 b 7 T) 8 R))) rfl trivial ?_
          refine P0.cr (io := []) (as := [.int (nI i39)]) (rest := []) (hc := []) (hc1 := []) (r1 := some (.int (digV (nI i39)))) (st' := [.int (digV (nI i39))]) (h' := hC g z38 w38 a (up2 (up2 b 7 T) 8 R)) (d0 := 1) GX11_digits kX11_fit_48 rfl rfl (Nat.le_of_ble_eq_true rfl) (Nat.le_of_ble_eq_true rfl) rfl trivial (e_X11_digits (nI i39)) (Nat.le_of_ble_eq_true rfl) rfl (Nat.le_of_ble_eq_true rfl) (Nat.le_of_ble_eq_true rfl) rfl rfl ?_
          exact P0.ri (by decide +kernel) rfl rfl ⟨_, _, _, by subst hT hR; rw [if_neg (Int32.not_lt.mpr h1), fitV_some hi39 hp39 (fitP_c h2 h3)], rfl⟩
        · refine P0.b GX11_fit 3 (ob := []) (cf' := (21, [some (.ref 0), some (.int k), some (.int (sentV (a 6) m)), some (.int ((it (fitF (R) (sentV (a 6) m)) i39 k) + (-1))), some (.int ((nI i39) + 1))], [], hC g z38 w38 a (up2 (up2 b 7 T) 8 R))) rfl trivial ?_
          exact hk39 _ ((it (fitF (R) (sentV (a 6) m)) i39 k) + (-1)) (fitP_b h3) (nI_1 _) (fitF_y h2)
      · refine P0.b GX11_fit 2 (ob := []) (cf' := (21, [some (.ref 0), some (.int k), some (.int (sentV (a 6) m)), some (.int (it (fitF (R) (sentV (a 6) m)) i39 k)), some (.int ((nI i39) + 1))], [], hC g z38 w38 a (up2 (up2 b 7 T) 8 R))) rfl trivial ?_
        exact hk39 _ (it (fitF (R) (sentV (a 6) m)) i39 k) (fitP_a h2) (nI_1 _) (fitF_n h2)
    · show P0 _ _ _ _ (21, [some (.ref 0), some (.int k), some (.int (sentV (a 6) m)), some (.int (it (fitF (R) (sentV (a 6) m)) 4096 k)), some (.int 4096)], [], hC g z38 w38 a (up2 (up2 b 7 T) 8 R)) _
      refine P0.b GX11_fit 4 (ob := []) (cf' := (62, [some (.ref 0), some (.int k), some (.int (sentV (a 6) m)), some (.int (it (fitF (R) (sentV (a 6) m)) 4096 k)), some (.int 4096)], [.int (-1)], hC g z38 w38 a (up2 (up2 b 7 T) 8 R))) rfl trivial ?_
      exact P0.ri (by decide +kernel) rfl rfl ⟨_, _, _, by subst hT hR; rw [if_neg (Int32.not_lt.mpr h1), fitV_none hp39], rfl⟩
  · refine P0.b GX11_fit 1 (ob := []) (cf' := (6, [some (.ref 0), some (.int k), none, none, none], [.int (-2)], hC g z w a b)) rfl trivial ?_
    exact P0.ri (by decide +kernel) rfl rfl ⟨_, _, _, by rw [if_pos (Int32.not_le.mp h1)], rfl⟩
