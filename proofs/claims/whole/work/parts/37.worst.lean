/-! ===== laid by program (wip/tools) ===== -/
/-- the most of which there are like ones, as they come -/
def mxc (f : Nat → Int32) : Nat → Nat
  | 0 => 0
  | k + 1 => max (mxc f k) (cnt f (k + 1) (f k))
theorem cnt_mono {f : Nat → Int32} {x : Int32} (n : Nat) : cnt f n x ≤ cnt f (n + 1) x := Nat.le_add_right _ _
theorem mxc_ge {f : Nat → Int32} : ∀ n x, cnt f n x ≤ mxc f n
  | 0, _ => Nat.le_refl _
  | n + 1, x => by
    by_cases e : f n = x
    · rw [← e]; exact Nat.le_max_right _ _
    · have : cnt f (n + 1) x = cnt f n x := by show cnt f n x + (if f n = x then 1 else 0) = _; rw [if_neg e]; rfl
      rw [this]
      exact Nat.le_trans (mxc_ge n x) (Nat.le_max_left _ _)
theorem mxc_at {f : Nat → Int32} : ∀ n, mxc f n = 0 ∨ ∃ x, cnt f n x = mxc f n
  | 0 => Or.inl rfl
  | n + 1 => by
    rcases Nat.le_total (mxc f n) (cnt f (n + 1) (f n)) with h | h
    · exact Or.inr ⟨f n, (Nat.max_eq_right h).symm⟩
    · have e : mxc f (n + 1) = mxc f n := Nat.max_eq_left h
      rcases mxc_at (f := f) n with h0 | ⟨x, hx⟩
      · exact Or.inl (e.trans h0)
      · exact Or.inr ⟨x, Nat.le_antisymm (mxc_ge (n + 1) x) (by rw [e, ← hx]; exact cnt_mono n)⟩
/-- of a row of numbers: how many of the one that is there most often -/
def mxL (L : List Int32) : Nat := L.foldl (fun m x => max m (L.count x)) 0
theorem fold_max {α : Type} (c : α → Nat) : ∀ (L : List α) (m W : Nat), m ≤ L.foldl (fun m x => max m (c x)) m ∧ (∀ x ∈ L, c x ≤ L.foldl (fun m x => max m (c x)) m) ∧ (m ≤ W → (∀ x ∈ L, c x ≤ W) → L.foldl (fun m x => max m (c x)) m ≤ W)
  | [], m, W => ⟨Nat.le_refl _, fun x h => (List.not_mem_nil h).elim, fun h _ => h⟩
  | y :: t, m, W => by
    obtain ⟨h1, h2, h3⟩ := fold_max c t (max m (c y)) W
    rw [List.foldl_cons]
    refine ⟨Nat.le_trans (Nat.le_max_left _ _) h1, fun x hx => ?_, fun hm hW => h3 (Nat.max_le.mpr ⟨hm, hW y List.mem_cons_self⟩) (fun x hx => hW x (List.mem_cons_of_mem _ hx))⟩
    rcases List.mem_cons.mp hx with rfl | hx
    · exact Nat.le_trans (Nat.le_max_right _ _) h1
    · exact h2 x hx
theorem mxL_eq {L : List Int32} {W : Nat} (h1 : ∀ x, L.count x ≤ W) (h2 : W = 0 ∨ ∃ x, L.count x = W) : mxL L = W := by
  obtain ⟨_, g2, g3⟩ := fold_max (fun x => L.count x) L 0 W
  refine Nat.le_antisymm (g3 (Nat.zero_le _) (fun x _ => h1 x)) ?_
  rcases h2 with h2 | ⟨x, hx⟩
  · rw [h2]; exact Nat.zero_le _
  · by_cases hW : W = 0
    · rw [hW]; exact Nat.zero_le _
    · rw [← hx]; exact g2 x (List.count_pos_iff.mp (by omega))
theorem cnt_map {f : Nat → Int32} {x : Int32} : ∀ n, ((List.range n).map f).count x = cnt f n x
  | 0 => rfl
  | n + 1 => by
    rw [List.range_succ, List.map_append, List.count_append, cnt_map n]
    show _ + [f n].count x = cnt f n x + _
    rw [List.count_singleton]
    simp [beq_iff_eq]
def codF (T : Nat → Int32) (x : Nat) (l : Int32) : Nat → Int32 → Int32 := fun s v => 7 * v + byV T (nI x) (nI s) l + 1
/-- what one says of a life, as one number -/
def codV (T : Nat → Int32) (x : Nat) (l : Int32) : Int32 := it (codF T x l) 6 0
def fitsB (R : Nat → Int32) (set : Int32) (l : Nat) : Bool := decide (R (nI l).toNatClampNeg &&& set = set)
def codL (T R : Nat → Int32) (x : Nat) (set : Int32) (N : Nat) : List Int32 := ((List.range N).filter (fitsB R set)).map (fun l => codV T x (nI l))
theorem codL_no {T R : Nat → Int32} {x : Nat} {set : Int32} {i : Nat} (h : ¬ R (nI i).toNatClampNeg &&& set = set) : codL T R x set (i + 1) = codL T R x set i := by
  unfold codL
  rw [List.range_succ, List.filter_append, List.filter_cons_of_neg (by simp [fitsB, h]), List.filter_nil, List.append_nil]
theorem codL_yes {T R : Nat → Int32} {x : Nat} {set : Int32} {i : Nat} (h : R (nI i).toNatClampNeg &&& set = set) : codL T R x set (i + 1) = codL T R x set i ++ [codV T x (nI i)] := by
  unfold codL
  rw [List.range_succ, List.filter_append, List.filter_cons_of_pos (by simp [fitsB, h]), List.filter_nil, List.map_append]
  rfl
theorem codL_len (T R : Nat → Int32) (x : Nat) (set : Int32) (N : Nat) : (codL T R x set N).length ≤ N := by
  unfold codL
  rw [List.length_map]
  exact Nat.le_trans (List.length_filter_le _ _) (by rw [List.length_range]; exact Nat.le_refl _)
def worI (T R : Nat → Int32) (x : Nat) (set : Int32) (i : Nat) (v : Int32 × (Nat → Int32)) : Prop := v.1 = nI (codL T R x set i).length ∧ codL T R x set i = (List.range (codL T R x set i).length).map v.2
theorem worI.no {T R : Nat → Int32} {x : Nat} {set : Int32} {i : Nat} {v : Int32 × (Nat → Int32)} (hI : worI T R x set i v) (h : ¬ R (nI i).toNatClampNeg &&& set = set) : worI T R x set (i + 1) v := by
  unfold worI
  rw [codL_no h]
  exact hI
theorem worI.idx {T R : Nat → Int32} {x : Nat} {set : Int32} {i : Nat} {v : Int32 × (Nat → Int32)} (hI : worI T R x set i v) (hi : i < 4096) : vp_in v.1 4096 := by
  rw [hI.1]
  exact nI_vp (Nat.lt_of_le_of_lt (codL_len T R x set i) hi) (by decide)
theorem worI.yes {T R : Nat → Int32} {x : Nat} {set : Int32} {i : Nat} {v : Int32 × (Nat → Int32)} (hI : worI T R x set i v) (hi : i < 4096) (h : R (nI i).toNatClampNeg &&& set = set) : worI T R x set (i + 1) (v.1 + 1, upd v.2 v.1.toNatClampNeg (codV T x (nI i))) := by
  have hl := codL_len T R x set i
  unfold worI
  rw [codL_yes h, List.length_append, List.length_singleton]
  obtain ⟨h1, h2⟩ := hI
  refine ⟨by show v.1 + 1 = _; rw [h1, nI_1], ?_⟩
  rw [List.range_succ, List.map_append]
  show _ = _ ++ [upd v.2 v.1.toNatClampNeg (codV T x (nI i)) (codL T R x set i).length]
  rw [h1, nI_clamp (by omega), pk_us]
  congr 1
  refine h2.trans (List.map_congr_left (fun j hj => (pk_un ?_).symm))
  have := List.mem_range.mp hj
  omega
theorem worI.fin {T R : Nat → Int32} {x : Nat} {set : Int32} {v : Int32 × (Nat → Int32)} (hI : worI T R x set 4096 v) : ∃ n, v.1 = nI n ∧ n ≤ 4096 ∧ ∀ y, cnt v.2 n y = (codL T R x set 4096).count y :=
  ⟨_, hI.1, codL_len _ _ _ _ _, fun y => by rw [← cnt_map, ← hI.2]⟩
def runI (f : Nat → Int32) (i : Nat) (v : Int32 × Int32) : Prop := v.1 = nI (mxc f i) ∧ (0 < i → v.2 = nI (cnt f i (f (i - 1))))
theorem cnt_le (f : Nat → Int32) (x : Int32) : ∀ n, cnt f n x ≤ n
  | 0 => Nat.le_refl _
  | n + 1 => by
    have := cnt_le f x n
    show cnt f n x + _ ≤ _
    split <;> omega
theorem mxc_le (f : Nat → Int32) : ∀ n, mxc f n ≤ n
  | 0 => Nat.le_refl _
  | n + 1 => Nat.max_le.mpr ⟨Nat.le_succ_of_le (mxc_le f n), cnt_le f _ _⟩
section RUN
variable {f : Nat → Int32} {n i : Nat} {v : Int32 × Int32} (hn : n ≤ 4096) (hs : ∀ i k, i ≤ k → k < n → f i ≤ f k) (hi : i < n) (hI : runI f i v)
theorem runA (hn : n ≤ 4096) (hi : i < n) (h : nI i ≤ 0) : (1 : Int32) = nI (cnt f (i + 1) (f i)) := by
  have : i = 0 := by
    by_cases e : i = 0
    · exact e
    · exact absurd h (nI_nle (by omega) (by omega))
  subst this
  show _ = nI (cnt f 0 (f 0) + (if f 0 = f 0 then 1 else 0))
  rw [if_pos rfl]
  show (1 : Int32) = nI (0 + 1)
  decide
theorem cnt_self : cnt f (i + 1) (f i) = cnt f i (f i) + 1 := by
  show cnt f i (f i) + (if f i = f i then 1 else 0) = _
  rw [if_pos rfl]
theorem runB (hn : n ≤ 4096) (hi : i < n) (hI : runI f i v) (h : ¬ nI i ≤ 0) (he : f i = f (i - 1)) : v.2 + 1 = nI (cnt f (i + 1) (f i)) := by
  have h0 : 0 < i := by
    by_cases e : i = 0
    · subst e; exact absurd (show nI 0 ≤ 0 by decide) h
    · omega
  rw [hI.2 h0, cnt_self, he, nI_1]
theorem runC (hn : n ≤ 4096) (hs : ∀ i k, i ≤ k → k < n → f i ≤ f k) (hi : i < n) (he : ¬ f i = f (i - 1)) : (1 : Int32) = nI (cnt f (i + 1) (f i)) := by
  have hz : cnt f i (f i) = 0 := by
    by_cases e : cnt f i (f i) = 0
    · exact e
    · exfalso
      obtain ⟨j, hj, q⟩ := (cnt_pos i).mp (Nat.pos_of_ne_zero e)
      have h1 := hs j (i - 1) (by omega) (by omega)
      have h2 := hs (i - 1) i (by omega) hi
      rw [q] at h1
      exact he (Int32.le_antisymm h1 h2)
  rw [cnt_self, hz]
  decide
theorem runM1 (hn : n ≤ 4096) (hi : i < n) (hI : runI f i v) {s : Int32} (hs : s = nI (cnt f (i + 1) (f i))) (h : s ≤ v.1) : runI f (i + 1) (v.1, s) := by
  refine ⟨?_, fun _ => hs⟩
  show v.1 = nI (max (mxc f i) (cnt f (i + 1) (f i)))
  rw [hs, hI.1] at h
  have := cnt_le f (f i) (i + 1)
  have := mxc_le f i
  rw [Nat.max_eq_left ((nI_leI (by omega) (by omega)).mp h)]
  exact hI.1
theorem runM2 (hn : n ≤ 4096) (hi : i < n) (hI : runI f i v) {s : Int32} (hs : s = nI (cnt f (i + 1) (f i))) (h : ¬ s ≤ v.1) : runI f (i + 1) (s, s) := by
  refine ⟨?_, fun _ => hs⟩
  show s = nI (max (mxc f i) (cnt f (i + 1) (f i)))
  rw [hs, hI.1] at h
  have := cnt_le f (f i) (i + 1)
  have := mxc_le f i
  rw [Nat.max_eq_right (Nat.le_of_lt (Nat.not_le.mp (fun z => h ((nI_leI (by omega) (by omega)).mpr z))))]
  exact hs
end RUN
theorem mxc_mxL {f f' : Nat → Int32} {n : Nat} {L : List Int32} (hc : ∀ y, cnt f n y = L.count y) (hs : Sam f f' n) : mxL L = mxc f' n := by
  have e : ∀ y, L.count y = cnt f' n y := fun y => (hc y).symm.trans (hs.1 y).symm
  refine mxL_eq (fun y => by rw [e]; exact mxc_ge n y) ?_
  rcases mxc_at (f := f') n with h | ⟨x, h⟩
  · exact Or.inl h
  · exact Or.inr ⟨x, (e x).trans h⟩
theorem one_nI {i : Nat} (h : ¬ nI i ≤ 0) : nI i - 1 = nI (i - 1) := by
  have h0 : 0 < i := by
    by_cases e : i = 0
    · subst e; exact absurd (show nI 0 ≤ 0 by decide) h
    · omega
  obtain ⟨j, rfl⟩ : ∃ j, i = j + 1 := ⟨i - 1, by omega⟩
  exact nI_pred j
theorem up2_self {b : Nat → Nat → Int32} {k : Nat} : up2 b k (b k) = b := by
  funext j
  unfold up2
  split
  · next h => rw [h]
  · rfl
set_option maxHeartbeats 1000000 in
theorem e_X11_worstBy {g z : Nat → Int32} {w : Int64} {a b : Nat → Nat → Int32} {x : Nat} (hx : x < 6) (set : Int32) : P0 3 0 0 mX11_worstBy (0, ent 7 [.ref 0, .int (nI x), .int set], [], hC g z w a b) (fun r h' => ∃ f, r = some (.int (nI (mxL (codL (b 7) (b 8) x set 4096)))) ∧ h' = hC g z w a (up2 b 10 f)) := by
  rw [show hC g z w a b = hC g z w a (up2 b 10 (b 10)) from by rw [up2_self]]
  refine P0.b GX11_worstBy 4 (ob := []) (cf' := (5, [some (.ref 0), some (.int (nI x)), some (.int set), some (.int 0), some (.int 0), none, none], [], hC g z w a (up2 b 10 (b 10)))) rfl trivial ?_
  refine P0.loopI (N := 4096) (worI (b 7) (b 8) x set) (fun x49 v49 => (5, [some (.ref 0), some (.int (nI x)), some (.int set), some (.int v49.1), some (.int x49), none, none], [], hC g z w a (up2 b 10 v49.2))) (fun i49 v49 hi49 hI49 hk49 => ?_) (fun v49 hI49 => ?_) 0 (0, b 10) nI_0.symm (⟨nI_0.symm, rfl⟩)
  · show P0 _ _ _ _ (5, [some (.ref 0), some (.int (nI x)), some (.int set), some (.int v49.1), some (.int (nI i49)), none, none], [], hC g z w a (up2 b 10 v49.2)) _
    refine P0.b GX11_worstBy 3 (ob := []) (cf' := (if 4096 ≤ nI i49 then 81 else 13, [some (.ref 0), some (.int (nI x)), some (.int set), some (.int v49.1), some (.int (nI i49)), none, none], [], hC g z w a (up2 b 10 v49.2))) rfl trivial ?_
    rw [if_neg (show ¬ (4096 ≤ nI i49) from nI_ge hi49 (by decide))]
    refine P0.b GX11_worstBy 8 (ob := [vp_in (nI i49) 4096]) (cf' := (if ((b 8) (nI i49).toNatClampNeg) &&& set = set then 26 else 75, [some (.ref 0), some (.int (nI x)), some (.int set), some (.int v49.1), some (.int (nI i49)), none, none], [], hC g z w a (up2 b 10 v49.2))) rfl ⟨(nI_vp (by omega) (by decide)), trivial⟩ ?_
    refine P0.if (fun h1 => ?_) (fun h1 => ?_)
    · refine P0.b GX11_worstBy 4 (ob := []) (cf' := (32, [some (.ref 0), some (.int (nI x)), some (.int set), some (.int v49.1), some (.int (nI i49)), some (.int 0), some (.int 0)], [], hC g z w a (up2 b 10 v49.2))) rfl trivial ?_
      refine P0.loop (N := 6) (codF (b 7) x (nI i49)) 0 (fun x50 v50 => (32, [some (.ref 0), some (.int (nI x)), some (.int set), some (.int v49.1), some (.int (nI i49)), some (.int v50), some (.int x50)], [], hC g z w a (up2 b 10 v49.2))) (fun i50 hi50 hk50 => ?_) ?_ 0 0 nI_0.symm rfl
      · show P0 _ _ _ _ (32, [some (.ref 0), some (.int (nI x)), some (.int set), some (.int v49.1), some (.int (nI i49)), some (.int (it (codF (b 7) x (nI i49)) i50 0)), some (.int (nI i50))], [], hC g z w a (up2 b 10 v49.2)) _
        refine P0.b GX11_worstBy 3 (ob := []) (cf' := (if 6 ≤ nI i50 then 64 else 39, [some (.ref 0), some (.int (nI x)), some (.int set), some (.int v49.1), some (.int (nI i49)), some (.int (it (codF (b 7) x (nI i49)) i50 0)), some (.int (nI i50))], [], hC g z w a (up2 b 10 v49.2))) rfl trivial ?_
        rw [if_neg (show ¬ (6 ≤ nI i50) from nI_ge hi50 (by decide))]
        refine P0.b GX11_worstBy 7 (ob := []) (cf' := (50, [some (.ref 0), some (.int (nI x)), some (.int set), some (.int v49.1), some (.int (nI i49)), some (.int (it (codF (b 7) x (nI i49)) i50 0)), some (.int (nI i50))], [.int (nI i49), .int (nI i50), .int (nI x), .ref 0, .int (7 * (it (codF (b 7) x (nI i49)) i50 0))], hC g z w a (up2 b 10 v49.2))) rfl trivial ?_
        refine P0.cd (d0 := 2) (as := [.ref 0, .int (nI x), .int (nI i50), .int (nI i49)]) (rest := [.int (7 * (it (codF (b 7) x (nI i49)) i50 0))]) (r1 := some (.int (byV (b 7) (nI x) (nI i50) (nI i49)))) (h1 := hC g z w a (up2 b 10 v49.2)) (st' := [.int (byV (b 7) (nI x) (nI i50) (nI i49)), .int (7 * (it (codF (b 7) x (nI i49)) i50 0))]) GX11_saysBy kX11_worstBy_50 rfl ⟨_, _, rfl, rfl, .inl ⟨_, _, _, _, rfl, rfl⟩⟩ (Nat.le_of_ble_eq_true rfl) (Nat.le_of_ble_eq_true rfl) (e_saysBy ((up2_n (by decide)).trans rfl) (nI x) (nI i50) (nI i49) (by_in hx hi50 _)) (Nat.le_of_ble_eq_true rfl) rfl (Nat.le_of_ble_eq_true rfl) rfl ?_
        refine P0.b GX11_worstBy 6 (ob := []) (cf' := (32, [some (.ref 0), some (.int (nI x)), some (.int set), some (.int v49.1), some (.int (nI i49)), some (.int (((7 * (it (codF (b 7) x (nI i49)) i50 0)) + (byV (b 7) (nI x) (nI i50) (nI i49))) + 1)), some (.int ((nI i50) + 1))], [], hC g z w a (up2 b 10 v49.2))) rfl trivial ?_
        exact hk50 _ (((7 * (it (codF (b 7) x (nI i49)) i50 0)) + (byV (b 7) (nI x) (nI i50) (nI i49))) + 1) (nI_1 _) rfl
      · show P0 _ _ _ _ (32, [some (.ref 0), some (.int (nI x)), some (.int set), some (.int v49.1), some (.int (nI i49)), some (.int (it (codF (b 7) x (nI i49)) 6 0)), some (.int 6)], [], hC g z w a (up2 b 10 v49.2)) _
        refine P0.b GX11_worstBy 8 (ob := [vp_in v49.1 4096]) (cf' := (72, [some (.ref 0), some (.int (nI x)), some (.int set), some (.int v49.1), some (.int (nI i49)), some (.int (it (codF (b 7) x (nI i49)) 6 0)), some (.int 6)], [], hC g z w a (up2 b 10 (upd v49.2 v49.1.toNatClampNeg (it (codF (b 7) x (nI i49)) 6 0))))) rfl ⟨hI49.idx hi49, trivial⟩ ?_
        refine P0.b GX11_worstBy 3 (ob := []) (cf' := (5, [some (.ref 0), some (.int (nI x)), some (.int set), some (.int (v49.1 + 1)), some (.int ((nI i49) + 1)), some (.int (it (codF (b 7) x (nI i49)) 6 0)), some (.int 6)], [], hC g z w a (up2 b 10 (upd v49.2 v49.1.toNatClampNeg (it (codF (b 7) x (nI i49)) 6 0))))) rfl trivial ?_
        refine P0.forget (ls' := [some (.ref 0), some (.int (nI x)), some (.int set), some (.int (v49.1 + 1)), some (.int ((nI i49) + 1)), none, none]) ⟨.inr rfl, .inr rfl, .inr rfl, .inr rfl, .inr rfl, .inl rfl, .inl rfl, trivial⟩ ?_
        exact hk49 _ (v49.1 + 1, upd v49.2 v49.1.toNatClampNeg (it (codF (b 7) x (nI i49)) 6 0)) (nI_1 _) (hI49.yes hi49 h1)
    · refine P0.b GX11_worstBy 2 (ob := []) (cf' := (5, [some (.ref 0), some (.int (nI x)), some (.int set), some (.int v49.1), some (.int ((nI i49) + 1)), none, none], [], hC g z w a (up2 b 10 v49.2))) rfl trivial ?_
      exact hk49 _ v49 (nI_1 _) (hI49.no h1)
  · show P0 _ _ _ _ (5, [some (.ref 0), some (.int (nI x)), some (.int set), some (.int v49.1), some (.int 4096), none, none], [], hC g z w a (up2 b 10 v49.2)) _
    refine P0.b GX11_worstBy 5 (ob := []) (cf' := (83, [some (.ref 0), some (.int (nI x)), some (.int set), some (.int v49.1), some (.int 4096), none, none], [.int v49.1, .ref 0], hC g z w a (up2 b 10 v49.2))) rfl trivial ?_
    obtain ⟨n, hn1, hn, hn3⟩ := hI49.fin
    rw [hn1]
    refine P0.cs (as := [.ref 0, .int (nI n)]) (rest := []) GX11_sorts1 kX11_worstBy_83 rfl ⟨_, _, rfl, rfl, .inl ⟨_, _, _, _, rfl, rfl⟩⟩ (Nat.le_of_ble_eq_true rfl) (Nat.le_of_ble_eq_true rfl) (P0.mono (e_X11_sorts1 hn v49.2) (Nat.le_of_ble_eq_true rfl) (Nat.zero_le _) (Nat.zero_le _) (fun _ _ q => q)) (Nat.le_of_ble_eq_true rfl) (fun _ _ ⟨_, _, q, _⟩ => q ▸ rfl) ?_
    rintro _ _ ⟨f, rfl, rfl, hsm, hso⟩
    show P0 _ _ _ _ (86, [some (.ref 0), some (.int (nI x)), some (.int set), some (.int (nI n)), some (.int 4096), none, none], [], hC g z w a (up2 b 10 f)) _
    refine P0.b GX11_worstBy 6 (ob := []) (cf' := (95, [some (.ref 0), some (.int (nI x)), some (.int set), some (.int (nI n)), some (.int 0), some (.int 0), some (.int 0)], [], hC g z w a (up2 b 10 f))) rfl trivial ?_
    refine P0.loopI (N := n) (runI f) (fun x51 v51 => (95, [some (.ref 0), some (.int (nI x)), some (.int set), some (.int (nI n)), some (.int v51.1), some (.int v51.2), some (.int x51)], [], hC g z w a (up2 b 10 f))) (fun i51 v51 hi51 hI51 hk51 => ?_) (fun v51 hI51 => ?_) 0 (0, 0) nI_0.symm (⟨nI_0.symm, fun h => absurd h (by decide)⟩)
    · show P0 _ _ _ _ (95, [some (.ref 0), some (.int (nI x)), some (.int set), some (.int (nI n)), some (.int v51.1), some (.int v51.2), some (.int (nI i51))], [], hC g z w a (up2 b 10 f)) _
      refine P0.b GX11_worstBy 3 (ob := []) (cf' := (if nI n ≤ nI i51 then 157 else 101, [some (.ref 0), some (.int (nI x)), some (.int set), some (.int (nI n)), some (.int v51.1), some (.int v51.2), some (.int (nI i51))], [], hC g z w a (up2 b 10 f))) rfl trivial ?_
      rw [if_neg (show ¬ (nI n ≤ nI i51) from nI_ge hi51 (by omega))]
      refine P0.b GX11_worstBy 2 (ob := []) (cf' := (if nI i51 ≤ 0 then 132 else 106, [some (.ref 0), some (.int (nI x)), some (.int set), some (.int (nI n)), some (.int v51.1), some (.int v51.2), some (.int (nI i51))], [], hC g z w a (up2 b 10 f))) rfl trivial ?_
      refine P0.if (fun h2 => ?_) (fun h2 => ?_)
      · refine P0.b GX11_worstBy 5 (ob := []) (cf' := (if 1 ≤ v51.1 then 147 else 142, [some (.ref 0), some (.int (nI x)), some (.int set), some (.int (nI n)), some (.int v51.1), some (.int 1), some (.int (nI i51))], [], hC g z w a (up2 b 10 f))) rfl trivial ?_
        refine P0.if (fun h3 => ?_) (fun h3 => ?_)
        · refine P0.b GX11_worstBy 4 (ob := []) (cf' := (95, [some (.ref 0), some (.int (nI x)), some (.int set), some (.int (nI n)), some (.int v51.1), some (.int 1), some (.int ((nI i51) + 1))], [], hC g z w a (up2 b 10 f))) rfl trivial ?_
          exact hk51 _ (v51.1, 1) (nI_1 _) (runM1 hn hi51 hI51 (runA hn hi51 h2) h3)
        · refine P0.b GX11_worstBy 5 (ob := []) (cf' := (95, [some (.ref 0), some (.int (nI x)), some (.int set), some (.int (nI n)), some (.int 1), some (.int 1), some (.int ((nI i51) + 1))], [], hC g z w a (up2 b 10 f))) rfl trivial ?_
          exact hk51 _ (1, 1) (nI_1 _) (runM2 hn hi51 hI51 (runA hn hi51 h2) h3)
      · refine P0.b GX11_worstBy 11 (ob := [vp_in (nI i51) 4096, vp_in ((nI i51) - 1) 4096]) (cf' := (if f (nI i51).toNatClampNeg = f ((nI i51) - 1).toNatClampNeg then 125 else 132, [some (.ref 0), some (.int (nI x)), some (.int set), some (.int (nI n)), some (.int v51.1), some (.int v51.2), some (.int (nI i51))], [], hC g z w a (up2 b 10 f))) rfl ⟨(nI_vp (by omega) (by decide)), (by rw [one_nI h2]; exact nI_vp (by omega) (by decide)), trivial⟩ ?_
        rw [show ((nI i51) - 1).toNatClampNeg = (i51 - 1) from by rw [one_nI h2]; exact nI_clamp (by omega)]
        rw [show f (nI i51).toNatClampNeg = f i51 from by rw [nI_clamp (by omega)]]
        refine P0.if (fun h4 => ?_) (fun h4 => ?_)
        · refine P0.b GX11_worstBy 8 (ob := []) (cf' := (if v51.2 + 1 ≤ v51.1 then 147 else 142, [some (.ref 0), some (.int (nI x)), some (.int set), some (.int (nI n)), some (.int v51.1), some (.int (v51.2 + 1)), some (.int (nI i51))], [], hC g z w a (up2 b 10 f))) rfl trivial ?_
          refine P0.if (fun h5 => ?_) (fun h5 => ?_)
          · refine P0.b GX11_worstBy 4 (ob := []) (cf' := (95, [some (.ref 0), some (.int (nI x)), some (.int set), some (.int (nI n)), some (.int v51.1), some (.int (v51.2 + 1)), some (.int ((nI i51) + 1))], [], hC g z w a (up2 b 10 f))) rfl trivial ?_
            exact hk51 _ (v51.1, v51.2 + 1) (nI_1 _) (runM1 hn hi51 hI51 (runB hn hi51 hI51 h2 h4) h5)
          · refine P0.b GX11_worstBy 5 (ob := []) (cf' := (95, [some (.ref 0), some (.int (nI x)), some (.int set), some (.int (nI n)), some (.int (v51.2 + 1)), some (.int (v51.2 + 1)), some (.int ((nI i51) + 1))], [], hC g z w a (up2 b 10 f))) rfl trivial ?_
            exact hk51 _ (v51.2 + 1, v51.2 + 1) (nI_1 _) (runM2 hn hi51 hI51 (runB hn hi51 hI51 h2 h4) h5)
        · refine P0.b GX11_worstBy 5 (ob := []) (cf' := (if 1 ≤ v51.1 then 147 else 142, [some (.ref 0), some (.int (nI x)), some (.int set), some (.int (nI n)), some (.int v51.1), some (.int 1), some (.int (nI i51))], [], hC g z w a (up2 b 10 f))) rfl trivial ?_
          refine P0.if (fun h6 => ?_) (fun h6 => ?_)
          · refine P0.b GX11_worstBy 4 (ob := []) (cf' := (95, [some (.ref 0), some (.int (nI x)), some (.int set), some (.int (nI n)), some (.int v51.1), some (.int 1), some (.int ((nI i51) + 1))], [], hC g z w a (up2 b 10 f))) rfl trivial ?_
            exact hk51 _ (v51.1, 1) (nI_1 _) (runM1 hn hi51 hI51 (runC hn hso hi51 h4) h6)
          · refine P0.b GX11_worstBy 5 (ob := []) (cf' := (95, [some (.ref 0), some (.int (nI x)), some (.int set), some (.int (nI n)), some (.int 1), some (.int 1), some (.int ((nI i51) + 1))], [], hC g z w a (up2 b 10 f))) rfl trivial ?_
            exact hk51 _ (1, 1) (nI_1 _) (runM2 hn hi51 hI51 (runC hn hso hi51 h4) h6)
    · show P0 _ _ _ _ (95, [some (.ref 0), some (.int (nI x)), some (.int set), some (.int (nI n)), some (.int v51.1), some (.int v51.2), some (.int (nI n))], [], hC g z w a (up2 b 10 f)) _
      refine P0.b GX11_worstBy 3 (ob := []) (cf' := (if nI n ≤ nI n then 157 else 101, [some (.ref 0), some (.int (nI x)), some (.int set), some (.int (nI n)), some (.int v51.1), some (.int v51.2), some (.int (nI n))], [], hC g z w a (up2 b 10 f))) rfl trivial ?_
      rw [if_pos (show nI n ≤ nI n from Int32.le_refl _)]
      refine P0.b GX11_worstBy 1 (ob := []) (cf' := (159, [some (.ref 0), some (.int (nI x)), some (.int set), some (.int (nI n)), some (.int v51.1), some (.int v51.2), some (.int (nI n))], [.int v51.1], hC g z w a (up2 b 10 f))) rfl trivial ?_
      exact P0.ri (by decide +kernel) rfl rfl ⟨f, by rw [hI51.1, mxc_mxL hn3 hsm], rfl⟩
theorem e_worstBy {g z : Nat → Int32} {w : Int64} {a b : Nat → Nat → Int32} {T R : Nat → Int32} (h7 : b 7 = T) (h8 : b 8 = R) {x : Nat} (hx : x < 6) (set : Int32) : P0 3 0 0 mX11_worstBy (0, ent 7 [.ref 0, .int (nI x), .int set], [], hC g z w a b) (fun r h' => ∃ f, r = some (.int (nI (mxL (codL T R x set 4096)))) ∧ h' = hC g z w a (up2 b 10 f)) := by
  subst h7 h8; exact e_X11_worstBy hx set
theorem up2_two {b : Nat → Nat → Int32} {k : Nat} {f h : Nat → Int32} : up2 (up2 b k f) k h = up2 b k h := by
  funext j
  unfold up2
  split <;> rfl
set_option maxHeartbeats 1000000 in
theorem e_X11_safest {g z : Nat → Int32} {w : Int64} {a b : Nat → Nat → Int32} {t m : Nat} (hr : g 4 = nI t) (hS : Std1 a t) (hm : g 11 = nI m) (hm6 : m ≤ 6) (hW : ∀ i, i < m → WOK a (nI i)) (what : Int32) : P0 46 0 0 mX11_safest (0, ent 7 [.ref 0, .int what], [], hC g z w a b) (fun r h' => ∃ z' w' b', r = some (.int (bstV (gatV a t (g 7) m (b 7) (b 8)) (fun x => nI (mxL (codL (tabV a t (g 7) m (b 7)) (gatV a t (g 7) m (b 7) (b 8)) x (sentV (a 6) m) 4096))) (sentV (a 6) m) m what)) ∧ h' = hC g z' w' a b') := by
  refine P0.b GX11_safest 4 (ob := []) (cf' := (4, [some (.ref 0), some (.int what), none, none, none, none, none], [.long 1, .long 0, .long what.toInt64], hC g z w a b)) rfl trivial ?_
  refine P0.cr (io := []) (as := [.long what.toInt64, .long ((0 : Int32).toInt64), .long ((1 : Int32).toInt64)]) (rest := []) (hc := []) (hc1 := []) (r1 := some (.int (if 0 ≤ what ∧ what ≤ 1 then 1 else 0))) (st' := [.int (if 0 ≤ what ∧ what ≤ 1 then 1 else 0)]) (h' := hC g z w a b) (d0 := 0) GX11_in kX11_safest_4 rfl rfl (Nat.le_of_ble_eq_true rfl) (Nat.le_of_ble_eq_true rfl) rfl trivial (e_in32 what 0 1) (Nat.le_of_ble_eq_true rfl) rfl (Nat.le_of_ble_eq_true rfl) (Nat.le_of_ble_eq_true rfl) rfl rfl ?_
  refine P0.b GX11_safest 1 (ob := []) (cf' := (if (if 0 ≤ what ∧ what ≤ 1 then 1 else 0) = 0 then 10 else 13, [some (.ref 0), some (.int what), none, none, none, none, none], [], hC g z w a b)) rfl trivial ?_
  refine P0.ifB (fun h1 => ?_) (fun h1 => ?_)
  · refine P0.b GX11_safest 1 (ob := []) (cf' := (12, [some (.ref 0), some (.int what), none, none, none, none, none], [.int (-2)], hC g z w a b)) rfl trivial ?_
    exact P0.ri (by decide +kernel) rfl rfl ⟨_, _, _, (by unfold bstV; rw [if_neg h1]), rfl⟩
  · refine P0.b GX11_safest 1 (ob := []) (cf' := (14, [some (.ref 0), some (.int what), none, none, none, none, none], [.ref 0], hC g z w a b)) rfl trivial ?_
    refine P0.cs (as := [.ref 0]) (rest := []) GX11_gathers kX11_safest_14 rfl ⟨_, _, rfl, rfl, .inl ⟨_, _, _, _, rfl, rfl⟩⟩ (Nat.le_of_ble_eq_true rfl) (Nat.le_of_ble_eq_true rfl) (P0.mono (e_gathers hr hS hm hm6 hW rfl rfl) (Nat.le_of_ble_eq_true rfl) (Nat.zero_le _) (Nat.zero_le _) (fun _ _ q => q)) (Nat.le_of_ble_eq_true rfl) (fun _ _ ⟨_, _, _, _, _, _, _, q⟩ => q ▸ rfl) ?_
    rintro _ _ ⟨z52, w52, T, R, hT, hR, rfl, rfl⟩
    show P0 _ _ _ _ (17, [some (.ref 0), some (.int what), none, none, none, none, none], [], hC g z52 w52 a (up2 (up2 b 7 T) 8 R)) _
    refine P0.b GX11_safest 1 (ob := []) (cf' := (18, [some (.ref 0), some (.int what), none, none, none, none, none], [.ref 0], hC g z52 w52 a (up2 (up2 b 7 T) 8 R))) rfl trivial ?_
    refine P0.cd (d0 := 0) (as := [.ref 0]) (rest := []) (r1 := some (.int (sentV (a 6) m))) (h1 := hC g z52 w52 a (up2 (up2 b 7 T) 8 R)) (st' := [.int (sentV (a 6) m)]) GX11_sentSet kX11_safest_18 rfl ⟨_, _, rfl, rfl, .inl ⟨_, _, _, _, rfl, rfl⟩⟩ (Nat.le_of_ble_eq_true rfl) (Nat.le_of_ble_eq_true rfl) (e_X11_sentSet hm hm6) (Nat.le_of_ble_eq_true rfl) rfl (Nat.le_of_ble_eq_true rfl) rfl ?_
    refine P0.b GX11_safest 5 (ob := []) (cf' := (26, [some (.ref 0), some (.int what), some (.int (sentV (a 6) m)), some (.int (-1)), none, none, none], [.int (sentV (a 6) m), .ref 0], hC g z52 w52 a (up2 (up2 b 7 T) 8 R))) rfl trivial ?_
    refine P0.cd (d0 := 0) (as := [.ref 0, .int (sentV (a 6) m)]) (rest := []) (r1 := some (.int (livV R (sentV (a 6) m)))) (h1 := hC g z52 w52 a (up2 (up2 b 7 T) 8 R)) (st' := [.int (livV R (sentV (a 6) m))]) GX11_livesBy kX11_safest_26 rfl ⟨_, _, rfl, rfl, .inl ⟨_, _, _, _, rfl, rfl⟩⟩ (Nat.le_of_ble_eq_true rfl) (Nat.le_of_ble_eq_true rfl) (e_livesBy up2_s (sentV (a 6) m)) (Nat.le_of_ble_eq_true rfl) rfl (Nat.le_of_ble_eq_true rfl) rfl ?_
    refine P0.b GX11_safest 3 (ob := []) (cf' := (34, [some (.ref 0), some (.int what), some (.int (sentV (a 6) m)), some (.int (-1)), some (.int (livV R (sentV (a 6) m))), some (.int 0), none], [], hC g z52 w52 a (up2 (up2 b 7 T) 8 R))) rfl trivial ?_
    rw [show up2 (up2 b 7 (T)) 8 (R) = up2 (up2 (up2 b 7 (T)) 8 (R)) 10 (b 10) from (up2_self (b := up2 (up2 b 7 (T)) 8 (R)) (k := 10)).symm]
    refine P0.loopI (N := m) (fun i v => v.1 = it (bstF (fun x => nI (mxL (codL (T) (R) x (sentV (a 6) m) 4096))) (sentV (a 6) m)) i (-1, livV (R) (sentV (a 6) m))) (fun x53 v53 => (34, [some (.ref 0), some (.int what), some (.int (sentV (a 6) m)), some (.int ((v53).1.1)), some (.int ((v53).1.2)), some (.int x53), none], [], hC g z52 w52 a (up2 (up2 (up2 b 7 T) 8 R) 10 ((v53).2)))) (fun i53 v53 hi53 hI53 hk53 => ?_) (fun v53 hI53 => ?_) 0 (((-1 : Int32), livV (R) (sentV (a 6) m)), b 10) nI_0.symm rfl
    · show P0 _ _ _ _ (34, [some (.ref 0), some (.int what), some (.int (sentV (a 6) m)), some (.int ((v53).1.1)), some (.int ((v53).1.2)), some (.int (nI i53)), none], [], hC g z52 w52 a (up2 (up2 (up2 b 7 T) 8 R) 10 ((v53).2))) _
      refine P0.b GX11_safest 4 (ob := []) (cf' := (if g 11 ≤ nI i53 then 86 else 43, [some (.ref 0), some (.int what), some (.int (sentV (a 6) m)), some (.int ((v53).1.1)), some (.int ((v53).1.2)), some (.int (nI i53)), none], [], hC g z52 w52 a (up2 (up2 (up2 b 7 T) 8 R) 10 ((v53).2)))) rfl trivial ?_
      rw [if_neg (show ¬ (g 11 ≤ nI i53) from by rw [hm]; exact nI_ge hi53 (by omega))]
      refine P0.b GX11_safest 6 (ob := []) (cf' := (if ((sentV (a 6) m) >>> ((nI i53) &&& 31)) &&& 1 = 0 then 52 else 80, [some (.ref 0), some (.int what), some (.int (sentV (a 6) m)), some (.int ((v53).1.1)), some (.int ((v53).1.2)), some (.int (nI i53)), none], [], hC g z52 w52 a (up2 (up2 (up2 b 7 T) 8 R) 10 ((v53).2)))) rfl trivial ?_
      refine P0.if (fun h2 => ?_) (fun h2 => ?_)
      · refine P0.b GX11_safest 3 (ob := []) (cf' := (56, [some (.ref 0), some (.int what), some (.int (sentV (a 6) m)), some (.int ((v53).1.1)), some (.int ((v53).1.2)), some (.int (nI i53)), none], [.int (sentV (a 6) m), .int (nI i53), .ref 0], hC g z52 w52 a (up2 (up2 (up2 b 7 T) 8 R) 10 ((v53).2)))) rfl trivial ?_
        refine P0.cs (as := [.ref 0, .int (nI i53), .int (sentV (a 6) m)]) (rest := []) GX11_worstBy kX11_safest_56 rfl ⟨_, _, rfl, rfl, .inl ⟨_, _, _, _, rfl, rfl⟩⟩ (Nat.le_of_ble_eq_true rfl) (Nat.le_of_ble_eq_true rfl) (P0.mono (e_worstBy ((up2_n (by decide)).trans ((up2_n (by decide)).trans up2_s)) ((up2_n (by decide)).trans up2_s) (x := i53) (by omega) (sentV (a 6) m)) (Nat.le_of_ble_eq_true rfl) (Nat.zero_le _) (Nat.zero_le _) (fun _ _ q => q)) (Nat.le_of_ble_eq_true rfl) (fun _ _ ⟨_, _, q⟩ => q ▸ rfl) ?_
        rintro _ _ ⟨f54, rfl, rfl⟩
        rw [up2_two]
        show P0 _ _ _ _ (59, [some (.ref 0), some (.int what), some (.int (sentV (a 6) m)), some (.int ((v53).1.1)), some (.int ((v53).1.2)), some (.int (nI i53)), none], [.int (nI (mxL (codL (T) (R) i53 (sentV (a 6) m) 4096)))], hC g z52 w52 a (up2 (up2 (up2 b 7 T) 8 R) 10 f54)) _
        refine P0.b GX11_safest 4 (ob := []) (cf' := (if (v53).1.1 = -1 then 73 else 66, [some (.ref 0), some (.int what), some (.int (sentV (a 6) m)), some (.int ((v53).1.1)), some (.int ((v53).1.2)), some (.int (nI i53)), some (.int (nI (mxL (codL (T) (R) i53 (sentV (a 6) m) 4096))))], [], hC g z52 w52 a (up2 (up2 (up2 b 7 T) 8 R) 10 f54))) rfl trivial ?_
        refine P0.if (fun h3 => ?_) (fun h3 => ?_)
        · refine P0.b GX11_safest 6 (ob := []) (cf' := (34, [some (.ref 0), some (.int what), some (.int (sentV (a 6) m)), some (.int (nI i53)), some (.int (nI (mxL (codL (T) (R) i53 (sentV (a 6) m) 4096)))), some (.int ((nI i53) + 1)), some (.int (nI (mxL (codL (T) (R) i53 (sentV (a 6) m) 4096))))], [], hC g z52 w52 a (up2 (up2 (up2 b 7 T) 8 R) 10 f54))) rfl trivial ?_
          refine P0.forget (ls' := [some (.ref 0), some (.int what), some (.int (sentV (a 6) m)), some (.int (nI i53)), some (.int (nI (mxL (codL (T) (R) i53 (sentV (a 6) m) 4096)))), some (.int ((nI i53) + 1)), none]) ⟨.inr rfl, .inr rfl, .inr rfl, .inr rfl, .inr rfl, .inr rfl, .inl rfl, trivial⟩ ?_
          exact hk53 _ ((nI i53, nI (mxL (codL (T) (R) i53 (sentV (a 6) m) 4096))), f54) (nI_1 _) (by rw [it_succ, ← hI53]; exact bst_b (c := fun x => nI (mxL (codL (T) (R) x (sentV (a 6) m) 4096))) h2 h3)
        · refine P0.b GX11_safest 3 (ob := []) (cf' := (if (v53).1.2 ≤ nI (mxL (codL (T) (R) i53 (sentV (a 6) m) 4096)) then 80 else 73, [some (.ref 0), some (.int what), some (.int (sentV (a 6) m)), some (.int ((v53).1.1)), some (.int ((v53).1.2)), some (.int (nI i53)), some (.int (nI (mxL (codL (T) (R) i53 (sentV (a 6) m) 4096))))], [], hC g z52 w52 a (up2 (up2 (up2 b 7 T) 8 R) 10 f54))) rfl trivial ?_
          refine P0.if (fun h4 => ?_) (fun h4 => ?_)
          · refine P0.b GX11_safest 2 (ob := []) (cf' := (34, [some (.ref 0), some (.int what), some (.int (sentV (a 6) m)), some (.int ((v53).1.1)), some (.int ((v53).1.2)), some (.int ((nI i53) + 1)), some (.int (nI (mxL (codL (T) (R) i53 (sentV (a 6) m) 4096))))], [], hC g z52 w52 a (up2 (up2 (up2 b 7 T) 8 R) 10 f54))) rfl trivial ?_
            refine P0.forget (ls' := [some (.ref 0), some (.int what), some (.int (sentV (a 6) m)), some (.int ((v53).1.1)), some (.int ((v53).1.2)), some (.int ((nI i53) + 1)), none]) ⟨.inr rfl, .inr rfl, .inr rfl, .inr rfl, .inr rfl, .inr rfl, .inl rfl, trivial⟩ ?_
            exact hk53 _ (((v53).1.1, (v53).1.2), f54) (nI_1 _) (by rw [it_succ, ← hI53]; exact bst_c (c := fun x => nI (mxL (codL (T) (R) x (sentV (a 6) m) 4096))) h2 h3 h4)
          · refine P0.b GX11_safest 6 (ob := []) (cf' := (34, [some (.ref 0), some (.int what), some (.int (sentV (a 6) m)), some (.int (nI i53)), some (.int (nI (mxL (codL (T) (R) i53 (sentV (a 6) m) 4096)))), some (.int ((nI i53) + 1)), some (.int (nI (mxL (codL (T) (R) i53 (sentV (a 6) m) 4096))))], [], hC g z52 w52 a (up2 (up2 (up2 b 7 T) 8 R) 10 f54))) rfl trivial ?_
            refine P0.forget (ls' := [some (.ref 0), some (.int what), some (.int (sentV (a 6) m)), some (.int (nI i53)), some (.int (nI (mxL (codL (T) (R) i53 (sentV (a 6) m) 4096)))), some (.int ((nI i53) + 1)), none]) ⟨.inr rfl, .inr rfl, .inr rfl, .inr rfl, .inr rfl, .inr rfl, .inl rfl, trivial⟩ ?_
            exact hk53 _ ((nI i53, nI (mxL (codL (T) (R) i53 (sentV (a 6) m) 4096))), f54) (nI_1 _) (by rw [it_succ, ← hI53]; exact bst_d (c := fun x => nI (mxL (codL (T) (R) x (sentV (a 6) m) 4096))) h2 h3 h4)
      · refine P0.b GX11_safest 2 (ob := []) (cf' := (34, [some (.ref 0), some (.int what), some (.int (sentV (a 6) m)), some (.int ((v53).1.1)), some (.int ((v53).1.2)), some (.int ((nI i53) + 1)), none], [], hC g z52 w52 a (up2 (up2 (up2 b 7 T) 8 R) 10 ((v53).2)))) rfl trivial ?_
        exact hk53 _ (((v53).1.1, (v53).1.2), (v53).2) (nI_1 _) (by rw [it_succ, ← hI53]; exact bst_a (c := fun x => nI (mxL (codL (T) (R) x (sentV (a 6) m) 4096))) h2)
    · show P0 _ _ _ _ (34, [some (.ref 0), some (.int what), some (.int (sentV (a 6) m)), some (.int ((v53).1.1)), some (.int ((v53).1.2)), some (.int (nI m)), none], [], hC g z52 w52 a (up2 (up2 (up2 b 7 T) 8 R) 10 ((v53).2))) _
      refine P0.b GX11_safest 4 (ob := []) (cf' := (if g 11 ≤ nI m then 86 else 43, [some (.ref 0), some (.int what), some (.int (sentV (a 6) m)), some (.int ((v53).1.1)), some (.int ((v53).1.2)), some (.int (nI m)), none], [], hC g z52 w52 a (up2 (up2 (up2 b 7 T) 8 R) 10 ((v53).2)))) rfl trivial ?_
      rw [if_pos (show g 11 ≤ nI m from by rw [hm]; exact Int32.le_refl _)]
      refine P0.b GX11_safest 2 (ob := []) (cf' := (if what = 0 then 90 else 94, [some (.ref 0), some (.int what), some (.int (sentV (a 6) m)), some (.int ((v53).1.1)), some (.int ((v53).1.2)), some (.int (nI m)), none], [], hC g z52 w52 a (up2 (up2 (up2 b 7 T) 8 R) 10 ((v53).2)))) rfl trivial ?_
      refine P0.if (fun h5 => ?_) (fun h5 => ?_)
      · refine P0.b GX11_safest 2 (ob := []) (cf' := (96, [some (.ref 0), some (.int what), some (.int (sentV (a 6) m)), some (.int ((v53).1.1)), some (.int ((v53).1.2)), some (.int (nI m)), none], [.int ((v53).1.1)], hC g z52 w52 a (up2 (up2 (up2 b 7 T) 8 R) 10 ((v53).2)))) rfl trivial ?_
        exact P0.ri (by decide +kernel) rfl rfl ⟨_, _, _, (by subst hT hR; unfold bstV bstP; rw [if_pos h1, if_pos h5, ← hI53]), rfl⟩
      · refine P0.b GX11_safest 1 (ob := []) (cf' := (96, [some (.ref 0), some (.int what), some (.int (sentV (a 6) m)), some (.int ((v53).1.1)), some (.int ((v53).1.2)), some (.int (nI m)), none], [.int ((v53).1.2)], hC g z52 w52 a (up2 (up2 (up2 b 7 T) 8 R) 10 ((v53).2)))) rfl trivial ?_
        exact P0.ri (by decide +kernel) rfl rfl ⟨_, _, _, (by subst hT hR; unfold bstV bstP; rw [if_pos h1, if_neg h5, ← hI53]), rfl⟩
