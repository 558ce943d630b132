/-! ===== laid by program (wip/tools) ===== -/
theorem nar_b (P : Prop) [Decidable P] : narrow .boolean (.int (if P then 1 else 0)) = .int (if P then 1 else 0) := by
  split <;> rfl
/-- lg_cmp as an order -/
theorem lgc_tri (x y : Int64) : (x < y ∧ lg_cmp x y = -1) ∨ (x = y ∧ lg_cmp x y = 0) ∨ (y < x ∧ lg_cmp x y = 1) := by
  unfold lg_cmp
  by_cases h : x > y
  · exact Or.inr (Or.inr ⟨h, if_pos h⟩)
  · rw [if_neg h]
    by_cases h2 : x = y
    · exact Or.inr (Or.inl ⟨h2, if_pos h2⟩)
    · rcases Int64.lt_or_lt_of_ne h2 with q | q
      · exact Or.inl ⟨q, if_neg h2⟩
      · exact absurd q h
theorem lgc_lt (x y : Int64) : lg_cmp x y < 0 ↔ x < y := by
  rcases lgc_tri x y with ⟨h, e⟩ | ⟨h, e⟩ | ⟨h, e⟩ <;> rw [e]
  · simp [h]
  · subst h; simp [Int64.lt_irrefl]
  · simp [Int64.not_lt.mpr (Int64.le_of_lt h)]
theorem lgc_gt (x y : Int64) : 0 < lg_cmp x y ↔ y < x := by
  rcases lgc_tri x y with ⟨h, e⟩ | ⟨h, e⟩ | ⟨h, e⟩ <;> rw [e]
  · simp [Int64.not_lt.mpr (Int64.le_of_lt h)]
  · subst h; simp [Int64.lt_irrefl]
  · simp [h]
theorem lgc_eq (x y : Int64) : lg_cmp x y = 0 ↔ x = y := by
  rcases lgc_tri x y with ⟨h, e⟩ | ⟨h, e⟩ | ⟨h, e⟩ <;> rw [e]
  · simp; intro z; subst z; exact Int64.lt_irrefl h
  · simp [h]
  · simp; intro z; subst z; exact Int64.lt_irrefl h
theorem i64_le (x y : Int32) : x.toInt64 ≤ y.toInt64 ↔ x ≤ y := by
  rw [Int64.le_iff_toInt_le, Int32.le_iff_toInt_le, Int32.toInt_toInt64, Int32.toInt_toInt64]
theorem i64_lt (x y : Int32) : x.toInt64 < y.toInt64 ↔ x < y := by
  rw [Int64.lt_iff_toInt_lt, Int32.lt_iff_toInt_lt, Int32.toInt_toInt64, Int32.toInt_toInt64]
theorem i64_eq (x y : Int32) : x.toInt64 = y.toInt64 ↔ x = y := by
  constructor
  · intro h
    have := congrArg Int64.toInt h
    rw [Int32.toInt_toInt64, Int32.toInt_toInt64] at this
    exact Int32.toInt_inj.mp this
  · intro h; rw [h]

set_option maxHeartbeats 1000000 in
theorem e_X11_in (v lo hi : Int64) : P0 0 0 0 mX11_in (0, ent 6 [.long v, .long lo, .long hi], [], []) (fun r h' => r = some (.int (if lo ≤ v ∧ v ≤ hi then 1 else 0)) ∧ h' = []) := by
  refine P0.b GX11_in 4 (ob := []) (cf' := (if lg_cmp v lo < 0 then 17 else 6, [some (.long v), none, some (.long lo), none, some (.long hi), none], [], [])) rfl trivial ?_
  refine P0.if (fun h1 => ?_) (fun h1 => ?_)
  · refine P0.b GX11_in 1 (ob := []) (cf' := (18, [some (.long v), none, some (.long lo), none, some (.long hi), none], [.int 0], [])) rfl trivial ?_
    exact P0.ri (by decide +kernel) rfl (by rfl) ⟨by rw [if_neg (fun z => Int64.not_le.mpr ((lgc_lt v lo).mp h1) z.1)], rfl⟩
  · refine P0.b GX11_in 4 (ob := []) (cf' := (if 0 < lg_cmp v hi then 17 else 13, [some (.long v), none, some (.long lo), none, some (.long hi), none], [], [])) rfl trivial ?_
    refine P0.if (fun h2 => ?_) (fun h2 => ?_)
    · refine P0.b GX11_in 1 (ob := []) (cf' := (18, [some (.long v), none, some (.long lo), none, some (.long hi), none], [.int 0], [])) rfl trivial ?_
      exact P0.ri (by decide +kernel) rfl (by rfl) ⟨by rw [if_neg (fun z => Int64.not_le.mpr ((lgc_gt v hi).mp h2) z.2)], rfl⟩
    · refine P0.b GX11_in 2 (ob := []) (cf' := (18, [some (.long v), none, some (.long lo), none, some (.long hi), none], [.int 1], [])) rfl trivial ?_
      exact P0.ri (by decide +kernel) rfl (by rfl) ⟨by rw [if_pos ⟨Int64.not_lt.mp (fun z => h1 ((lgc_lt v lo).mpr z)), Int64.not_lt.mp (fun z => h2 ((lgc_gt v hi).mpr z))⟩], rfl⟩
theorem e_in32 (v lo hi : Int32) : P0 0 0 0 mX11_in (0, ent 6 [.long v.toInt64, .long lo.toInt64, .long hi.toInt64], [], []) (fun r h' => r = some (.int (if lo ≤ v ∧ v ≤ hi then 1 else 0)) ∧ h' = []) := by
  have h := e_X11_in v.toInt64 lo.toInt64 hi.toInt64
  simp only [i64_le] at h
  exact h
set_option maxHeartbeats 1000000 in
theorem e_X11_within (v lo hi : Int32) : P0 0 0 0 mX11_within (0, ent 3 [.int v, .int lo, .int hi], [], []) (fun r h' => r = some (.int (if v < lo then lo else if hi < v then hi else v)) ∧ h' = []) := by
  refine P0.b GX11_within 3 (ob := []) (cf' := (if lo ≤ v then 9 else 5, [some (.int v), some (.int lo), some (.int hi)], [], [])) rfl trivial ?_
  refine P0.if (fun h1 => ?_) (fun h1 => ?_)
  · refine P0.b GX11_within 3 (ob := []) (cf' := (if v ≤ hi then 18 else 14, [some (.int v), some (.int lo), some (.int hi)], [], [])) rfl trivial ?_
    refine P0.if (fun h2 => ?_) (fun h2 => ?_)
    · refine P0.b GX11_within 1 (ob := []) (cf' := (19, [some (.int v), some (.int lo), some (.int hi)], [.int v], [])) rfl trivial ?_
      exact P0.ri (by decide +kernel) rfl rfl ⟨by have g0 := Int32.not_lt.mpr h1; have g1 := Int32.not_lt.mpr h2; simp [g0, g1], rfl⟩
    · refine P0.b GX11_within 2 (ob := []) (cf' := (19, [some (.int v), some (.int lo), some (.int hi)], [.int hi], [])) rfl trivial ?_
      exact P0.ri (by decide +kernel) rfl rfl ⟨by have g0 := Int32.not_lt.mpr h1; have g1 := Int32.not_le.mp h2; simp [g0, g1], rfl⟩
  · refine P0.b GX11_within 2 (ob := []) (cf' := (19, [some (.int v), some (.int lo), some (.int hi)], [.int lo], [])) rfl trivial ?_
    exact P0.ri (by decide +kernel) rfl rfl ⟨by have g0 := Int32.not_le.mp h1; simp [g0], rfl⟩
set_option maxHeartbeats 1000000 in
theorem e_X11_isStep (s : Int32) : P0 1 0 0 mX11_isStep (0, ent 1 [.int s], [], []) (fun r h' => r = some (.int (if 0 ≤ s ∧ s ≤ 5 then 1 else 0)) ∧ h' = []) := by
  refine P0.b GX11_isStep 4 (ob := []) (cf' := (6, [some (.int s)], [.long 5, .long 0, .long s.toInt64], [])) rfl trivial ?_
  refine P0.cr (io := []) (as := [.long s.toInt64, .long ((0 : Int32).toInt64), .long ((5 : Int32).toInt64)]) (rest := []) (hc := []) (hc1 := []) (r1 := some (.int (if 0 ≤ s ∧ s ≤ 5 then 1 else 0))) (st' := [.int (if 0 ≤ s ∧ s ≤ 5 then 1 else 0)]) (h' := []) (d0 := 0) GX11_in kX11_isStep_6 rfl rfl (Nat.le_of_ble_eq_true rfl) (Nat.le_of_ble_eq_true rfl) rfl trivial (e_in32 s 0 5) (Nat.le_of_ble_eq_true rfl) rfl (Nat.le_of_ble_eq_true rfl) (Nat.le_of_ble_eq_true rfl) rfl rfl ?_
  exact P0.ri (by decide +kernel) rfl (by exact nar_b _) ⟨rfl, rfl⟩
set_option maxHeartbeats 1000000 in
theorem e_X11_isSheet (s : Int32) : P0 1 0 0 mX11_isSheet (0, ent 1 [.int s], [], []) (fun r h' => r = some (.int (if 0 ≤ s ∧ s ≤ 3 then 1 else 0)) ∧ h' = []) := by
  refine P0.b GX11_isSheet 4 (ob := []) (cf' := (6, [some (.int s)], [.long 3, .long 0, .long s.toInt64], [])) rfl trivial ?_
  refine P0.cr (io := []) (as := [.long s.toInt64, .long ((0 : Int32).toInt64), .long ((3 : Int32).toInt64)]) (rest := []) (hc := []) (hc1 := []) (r1 := some (.int (if 0 ≤ s ∧ s ≤ 3 then 1 else 0))) (st' := [.int (if 0 ≤ s ∧ s ≤ 3 then 1 else 0)]) (h' := []) (d0 := 0) GX11_in kX11_isSheet_6 rfl rfl (Nat.le_of_ble_eq_true rfl) (Nat.le_of_ble_eq_true rfl) rfl trivial (e_in32 s 0 3) (Nat.le_of_ble_eq_true rfl) rfl (Nat.le_of_ble_eq_true rfl) (Nat.le_of_ble_eq_true rfl) rfl rfl ?_
  exact P0.ri (by decide +kernel) rfl (by exact nar_b _) ⟨rfl, rfl⟩
set_option maxHeartbeats 1000000 in
theorem e_X11_isWitness {g : Nat → Int32} {w : Int64} {a : Nat → Nat → Int32} (x : Int32) : P0 1 0 0 mX11_isWitness (0, ent 2 [.ref 0, .int x], [], hM g w a) (fun r h' => r = some (.int (if 0 ≤ x ∧ x ≤ g 11 - 1 then 1 else 0)) ∧ h' = hM g w a) := by
  refine P0.b GX11_isWitness 8 (ob := []) (cf' := (10, [some (.ref 0), some (.int x)], [.long (((g 11) - 1).toInt64), .long 0, .long x.toInt64], hM g w a)) rfl trivial ?_
  refine P0.cr (io := []) (as := [.long x.toInt64, .long ((0 : Int32).toInt64), .long (((g 11) - 1).toInt64)]) (rest := []) (hc := []) (hc1 := []) (r1 := some (.int (if 0 ≤ x ∧ x ≤ (g 11) - 1 then 1 else 0))) (st' := [.int (if 0 ≤ x ∧ x ≤ (g 11) - 1 then 1 else 0)]) (h' := hM g w a) (d0 := 0) GX11_in kX11_isWitness_10 rfl rfl (Nat.le_of_ble_eq_true rfl) (Nat.le_of_ble_eq_true rfl) rfl trivial (e_in32 x 0 ((g 11) - 1)) (Nat.le_of_ble_eq_true rfl) rfl (Nat.le_of_ble_eq_true rfl) (Nat.le_of_ble_eq_true rfl) rfl rfl ?_
  exact P0.ri (by decide +kernel) rfl (by exact nar_b _) ⟨rfl, rfl⟩
def isOfP (g : Nat → Int32) (what of : Int32) : Prop := what = 0 ∨ (what = 1 ∧ 0 ≤ of ∧ of ≤ 5) ∨ (¬ what = 1 ∧ 0 ≤ of ∧ of ≤ g 11 - 1)
noncomputable section
abbrev decIsOf (g : Nat → Int32) (what of : Int32) : Decidable (isOfP g what of) := by unfold isOfP; exact inferInstance
end
def mostOf (what : Int32) : Int32 := if what = 0 then 99 else if what = 1 then 3 else if what = 2 then 9 else if what = 3 then 63 else 1
set_option maxHeartbeats 1000000 in
theorem e_X11_isOf {g : Nat → Int32} {w : Int64} {a : Nat → Nat → Int32} (what of : Int32) : P0 2 0 0 mX11_isOf (0, ent 3 [.ref 0, .int what, .int of], [], hM g w a) (fun r h' => r = some (.int (if what = 0 ∨ (what = 1 ∧ 0 ≤ of ∧ of ≤ 5) ∨ (¬ what = 1 ∧ 0 ≤ of ∧ of ≤ g 11 - 1) then 1 else 0)) ∧ h' = hM g w a) := by
  refine P0.b GX11_isOf 2 (ob := []) (cf' := (if what = 0 then 27 else 4, [some (.ref 0), some (.int what), some (.int of)], [], hM g w a)) rfl trivial ?_
  refine P0.if (fun h1 => ?_) (fun h1 => ?_)
  · refine P0.b GX11_isOf 2 (ob := []) (cf' := (32, [some (.ref 0), some (.int what), some (.int of)], [.int 1], hM g w a)) rfl trivial ?_
    exact P0.ri (by decide +kernel) rfl (by rfl) ⟨by simp [h1], rfl⟩
  · refine P0.b GX11_isOf 3 (ob := []) (cf' := (if what = 1 then 9 else 19, [some (.ref 0), some (.int what), some (.int of)], [], hM g w a)) rfl trivial ?_
    refine P0.if (fun h2 => ?_) (fun h2 => ?_)
    · refine P0.b GX11_isOf 1 (ob := []) (cf' := (10, [some (.ref 0), some (.int what), some (.int of)], [.int of], hM g w a)) rfl trivial ?_
      refine P0.cr (io := []) (as := [.int of]) (rest := []) (hc := []) (hc1 := []) (r1 := some (.int (if 0 ≤ of ∧ of ≤ 5 then 1 else 0))) (st' := [.int (if 0 ≤ of ∧ of ≤ 5 then 1 else 0)]) (h' := hM g w a) (d0 := 1) GX11_isStep kX11_isOf_10 rfl rfl (Nat.le_of_ble_eq_true rfl) (Nat.le_of_ble_eq_true rfl) rfl trivial (e_X11_isStep of) (Nat.le_of_ble_eq_true rfl) rfl (Nat.le_of_ble_eq_true rfl) (Nat.le_of_ble_eq_true rfl) rfl rfl ?_
      refine P0.b GX11_isOf 1 (ob := []) (cf' := (if (if 0 ≤ of ∧ of ≤ 5 then 1 else 0) = 0 then 31 else 16, [some (.ref 0), some (.int what), some (.int of)], [], hM g w a)) rfl trivial ?_
      refine P0.ifB (fun h3 => ?_) (fun h3 => ?_)
      · refine P0.b GX11_isOf 1 (ob := []) (cf' := (32, [some (.ref 0), some (.int what), some (.int of)], [.int 0], hM g w a)) rfl trivial ?_
        exact P0.ri (by decide +kernel) rfl (by rfl) ⟨by simp [h1, h2, h3], rfl⟩
      · refine P0.b GX11_isOf 3 (ob := []) (cf' := (32, [some (.ref 0), some (.int what), some (.int of)], [.int 1], hM g w a)) rfl trivial ?_
        exact P0.ri (by decide +kernel) rfl (by rfl) ⟨by simp [h1, h2, h3], rfl⟩
    · refine P0.b GX11_isOf 2 (ob := []) (cf' := (21, [some (.ref 0), some (.int what), some (.int of)], [.int of, .ref 0], hM g w a)) rfl trivial ?_
      refine P0.cd (d0 := 1) (as := [.ref 0, .int of]) (rest := []) (r1 := some (.int (if 0 ≤ of ∧ of ≤ g 11 - 1 then 1 else 0))) (h1 := hM g w a) (st' := [.int (if 0 ≤ of ∧ of ≤ g 11 - 1 then 1 else 0)]) GX11_isWitness kX11_isOf_21 rfl ⟨_, _, rfl, rfl, .inl ⟨_, _, _, _, rfl, rfl⟩⟩ (Nat.le_of_ble_eq_true rfl) (Nat.le_of_ble_eq_true rfl) (e_X11_isWitness (g := g) (w := w) (a := a) of) (Nat.le_of_ble_eq_true rfl) rfl (Nat.le_of_ble_eq_true rfl) rfl ?_
      refine P0.b GX11_isOf 1 (ob := []) (cf' := (if (if 0 ≤ of ∧ of ≤ g 11 - 1 then 1 else 0) = 0 then 31 else 27, [some (.ref 0), some (.int what), some (.int of)], [], hM g w a)) rfl trivial ?_
      refine P0.ifB (fun h4 => ?_) (fun h4 => ?_)
      · refine P0.b GX11_isOf 1 (ob := []) (cf' := (32, [some (.ref 0), some (.int what), some (.int of)], [.int 0], hM g w a)) rfl trivial ?_
        exact P0.ri (by decide +kernel) rfl (by rfl) ⟨by simp [h1, h2, h4], rfl⟩
      · refine P0.b GX11_isOf 2 (ob := []) (cf' := (32, [some (.ref 0), some (.int what), some (.int of)], [.int 1], hM g w a)) rfl trivial ?_
        exact P0.ri (by decide +kernel) rfl (by rfl) ⟨by simp [h1, h2, h4], rfl⟩
set_option maxHeartbeats 1000000 in
theorem e_X11_mostOf (what : Int32) : P0 0 0 0 mX11_mostOf (0, ent 1 [.int what], [], []) (fun r h' => r = some (.int (mostOf what)) ∧ h' = []) := by
  refine P0.b GX11_mostOf 2 (ob := []) (cf' := (if what = 0 then 4 else 9, [some (.int what)], [], [])) rfl trivial ?_
  refine P0.if (fun h1 => ?_) (fun h1 => ?_)
  · refine P0.b GX11_mostOf 2 (ob := []) (cf' := (39, [some (.int what)], [.int 99], [])) rfl trivial ?_
    exact P0.ri (by decide +kernel) rfl rfl ⟨by simp [mostOf, h1], rfl⟩
  · refine P0.b GX11_mostOf 3 (ob := []) (cf' := (if what = 1 then 14 else 18, [some (.int what)], [], [])) rfl trivial ?_
    refine P0.if (fun h2 => ?_) (fun h2 => ?_)
    · refine P0.b GX11_mostOf 2 (ob := []) (cf' := (39, [some (.int what)], [.int 3], [])) rfl trivial ?_
      exact P0.ri (by decide +kernel) rfl rfl ⟨by simp [mostOf, h1, h2], rfl⟩
    · refine P0.b GX11_mostOf 3 (ob := []) (cf' := (if what = 2 then 23 else 28, [some (.int what)], [], [])) rfl trivial ?_
      refine P0.if (fun h3 => ?_) (fun h3 => ?_)
      · refine P0.b GX11_mostOf 2 (ob := []) (cf' := (39, [some (.int what)], [.int 9], [])) rfl trivial ?_
        exact P0.ri (by decide +kernel) rfl rfl ⟨by simp [mostOf, h1, h2, h3], rfl⟩
      · refine P0.b GX11_mostOf 3 (ob := []) (cf' := (if what = 3 then 33 else 38, [some (.int what)], [], [])) rfl trivial ?_
        refine P0.if (fun h4 => ?_) (fun h4 => ?_)
        · refine P0.b GX11_mostOf 2 (ob := []) (cf' := (39, [some (.int what)], [.int 63], [])) rfl trivial ?_
          exact P0.ri (by decide +kernel) rfl rfl ⟨by simp [mostOf, h1, h2, h3, h4], rfl⟩
        · refine P0.b GX11_mostOf 1 (ob := []) (cf' := (39, [some (.int what)], [.int 1], [])) rfl trivial ?_
          exact P0.ri (by decide +kernel) rfl rfl ⟨by simp [mostOf, h1, h2, h3, h4], rfl⟩
def feedR (g : Nat → Int32) (x : Int32) : Int32 := if 0 ≤ x ∧ x ≤ 255 then (if g 6 = 160 then -4 else g 6 + 1) else -2
set_option maxHeartbeats 1000000 in
theorem e_X11_feed {g : Nat → Int32} {w : Int64} {a : Nat → Nat → Int32} (x : Int32) (hin : ¬ g 6 = 160 → vp_in (g 6) 160) : P0 1 0 0 mX11_feed (0, ent 2 [.ref 0, .int x], [], hM g w a) (fun r h' => r = some (.int (feedR g x)) ∧ h' = hM (if (0 ≤ x ∧ x ≤ 255) ∧ ¬ g 6 = 160 then upd g 6 (g 6 + 1) else g) w (if (0 ≤ x ∧ x ≤ 255) ∧ ¬ g 6 = 160 then up2 a 3 (upd (a 3) (g 6).toNatClampNeg x) else a)) := by
  refine P0.b GX11_feed 4 (ob := []) (cf' := (6, [some (.ref 0), some (.int x)], [.long 255, .long 0, .long x.toInt64], hM g w a)) rfl trivial ?_
  refine P0.cr (io := []) (as := [.long x.toInt64, .long ((0 : Int32).toInt64), .long ((255 : Int32).toInt64)]) (rest := []) (hc := []) (hc1 := []) (r1 := some (.int (if 0 ≤ x ∧ x ≤ 255 then 1 else 0))) (st' := [.int (if 0 ≤ x ∧ x ≤ 255 then 1 else 0)]) (h' := hM g w a) (d0 := 0) GX11_in kX11_feed_6 rfl rfl (Nat.le_of_ble_eq_true rfl) (Nat.le_of_ble_eq_true rfl) rfl trivial (e_in32 x 0 255) (Nat.le_of_ble_eq_true rfl) rfl (Nat.le_of_ble_eq_true rfl) (Nat.le_of_ble_eq_true rfl) rfl rfl ?_
  refine P0.b GX11_feed 1 (ob := []) (cf' := (if (if 0 ≤ x ∧ x ≤ 255 then 1 else 0) = 0 then 12 else 15, [some (.ref 0), some (.int x)], [], hM g w a)) rfl trivial ?_
  refine P0.ifB (fun h1 => ?_) (fun h1 => ?_)
  · refine P0.b GX11_feed 1 (ob := []) (cf' := (14, [some (.ref 0), some (.int x)], [.int (-2)], hM g w a)) rfl trivial ?_
    exact P0.ri (by decide +kernel) rfl rfl ⟨by simp [feedR, h1], by simp [h1]⟩
  · refine P0.b GX11_feed 4 (ob := []) (cf' := (if g 6 = 160 then 25 else 28, [some (.ref 0), some (.int x)], [], hM g w a)) rfl trivial ?_
    refine P0.if (fun h2 => ?_) (fun h2 => ?_)
    · refine P0.b GX11_feed 1 (ob := []) (cf' := (27, [some (.ref 0), some (.int x)], [.int (-4)], hM g w a)) rfl trivial ?_
      exact P0.ri (by decide +kernel) rfl rfl ⟨by simp [feedR, h1, h2], by simp [h1, h2]⟩
    · refine P0.b GX11_feed 14 (ob := [vp_in (g 6) 160]) (cf' := (52, [some (.ref 0), some (.int x)], [.int ((g 6) + 1)], hM (upd g 6 ((g 6) + 1)) w (up2 a 3 (upd (a 3) (g 6).toNatClampNeg x)))) rfl ⟨hin h2, trivial⟩ ?_
      exact P0.ri (by decide +kernel) rfl rfl ⟨by simp [feedR, h1, h2], by simp [h1, h2]⟩
set_option maxHeartbeats 1000000 in
theorem e_X11_fail {g : Nat → Int32} {w : Int64} {a : Nat → Nat → Int32} : P0 0 0 0 mX11_fail (0, ent 1 [.ref 0], [], hM g w a) (fun r h' => r = none ∧ h' = hM (if g 25 = 0 then upd (upd g 25 1) 26 (g 22) else g) w a) := by
  refine P0.b GX11_fail 3 (ob := []) (cf' := (if g 25 = 0 then 7 else 20, [some (.ref 0)], [], hM g w a)) rfl trivial ?_
  refine P0.if (fun h1 => ?_) (fun h1 => ?_)
  · refine P0.b GX11_fail 7 (ob := [1 = 0 ∨ 1 = 1]) (cf' := (20, [some (.ref 0)], [], hM (upd (upd g 25 1) 26 (g 22)) w a)) rfl ⟨.inr rfl, trivial⟩ ?_
    exact P0.rv (by decide +kernel) rfl ⟨rfl, by simp [h1]⟩
  · exact P0.rv (by decide +kernel) rfl ⟨rfl, by simp [h1]⟩
def byt (g : Nat → Int32) (a : Nat → Nat → Int32) (i : Int32) : Int32 := if i < g 19 then a 1 (g 18 + i).toNatClampNeg else -1
def isLetP (g : Nat → Int32) (a : Nat → Nat → Int32) (i c : Int32) : Prop := (g 22 + i < g 20 ∧ byt g a (g 22 + i) = c) ∨ (¬ g 22 + i < g 20 ∧ c = 0)
