/-! ===== laid by program (wip/tools) ===== -/
def rPt {X : Type} (S : Nat → Int32) (nxt : Nat → Nat) (A : ALG X) (K : Prop) [Decidable K] (p : Nat) : PR X := if K then pbind (lvl S nxt A 5 0 (nxt p)) (fun x p1 => if S p1 = -15 then .inr (x, nxt p1) else .inl p1) else .inl p
def rPart {X : Type} (S : Nat → Int32) (nxt : Nat → Nat) (A : ALG X) (key : Int32) (p : Nat) : PR X := rPt S nxt A (S p = key) p
def rText {X : Type} (S : Nat → Int32) (nxt : Nat → Nat) (A : ALG X) (p0 : Nat) : Sum Nat (X × X × X) := match rPart S nxt A (-7) p0 with
  | .inl q => .inl q
  | .inr (x, p1) => match rPart S nxt A (-8) p1 with
    | .inl q => .inl q
    | .inr (y, p2) => match rPart S nxt A (-9) p2 with
      | .inl q => .inl q
      | .inr (z, p3) => if S p3 = -22 then .inr (x, y, z) else .inl p3
section RT
variable {X : Type} {S : Nat → Int32} {nxt : Nat → Nat} {A : ALG X}
theorem rT_no1 {p0 q : Nat} (h1 : rPart S nxt A (-7) p0 = .inl q) : rText S nxt A p0 = .inl q := by unfold rText; rw [h1]
theorem rT_no2 {p0 p1 q : Nat} {x : X} (h1 : rPart S nxt A (-7) p0 = .inr (x, p1)) (h2 : rPart S nxt A (-8) p1 = .inl q) : rText S nxt A p0 = .inl q := by unfold rText; rw [h1]; dsimp only; rw [h2]
theorem rT_no3 {p0 p1 p2 q : Nat} {x y : X} (h1 : rPart S nxt A (-7) p0 = .inr (x, p1)) (h2 : rPart S nxt A (-8) p1 = .inr (y, p2)) (h3 : rPart S nxt A (-9) p2 = .inl q) : rText S nxt A p0 = .inl q := by unfold rText; rw [h1]; dsimp only; rw [h2]; dsimp only; rw [h3]
theorem rT_no4 {p0 p1 p2 p3 : Nat} {x y z : X} (h1 : rPart S nxt A (-7) p0 = .inr (x, p1)) (h2 : rPart S nxt A (-8) p1 = .inr (y, p2)) (h3 : rPart S nxt A (-9) p2 = .inr (z, p3)) (h4 : ¬ S p3 = -22) : rText S nxt A p0 = .inl p3 := by unfold rText; rw [h1]; dsimp only; rw [h2]; dsimp only; rw [h3]; exact if_neg h4
theorem rT_yes {p0 p1 p2 p3 : Nat} {x y z : X} (h1 : rPart S nxt A (-7) p0 = .inr (x, p1)) (h2 : rPart S nxt A (-8) p1 = .inr (y, p2)) (h3 : rPart S nxt A (-9) p2 = .inr (z, p3)) (h4 : S p3 = -22) : rText S nxt A p0 = .inr (x, y, z) := by unfold rText; rw [h1]; dsimp only; rw [h2]; dsimp only; rw [h3]; exact if_pos h4
theorem rP_no {K : Prop} [Decidable K] {p : Nat} (h : ¬ K) : rPt S nxt A K p = .inl p := if_neg h
theorem rP_bad {K : Prop} [Decidable K] {p q : Nat} (h : K) (hr : lvl S nxt A 5 0 (nxt p) = .inl q) : rPt S nxt A K p = .inl q := by
  unfold rPt
  rw [if_pos h, hr]; rfl
theorem rP_semi {K : Prop} [Decidable K] {p p1 : Nat} {x : X} (h : K) (hr : lvl S nxt A 5 0 (nxt p) = .inr (x, p1)) (hs : S p1 = -15) : rPt S nxt A K p = .inr (x, nxt p1) := by
  unfold rPt
  rw [if_pos h, hr]
  show (if S p1 = -15 then _ else _) = _
  rw [if_pos hs]
theorem rP_nosemi {K : Prop} [Decidable K] {p p1 : Nat} {x : X} (h : K) (hr : lvl S nxt A 5 0 (nxt p) = .inr (x, p1)) (hs : ¬ S p1 = -15) : rPt S nxt A K p = .inl p1 := by
  unfold rPt
  rw [if_pos h, hr]
  show (if S p1 = -15 then _ else _) = _
  rw [if_neg hs]
end RT
theorem kd0 {B : Nat → Int32} {p : Nat} : kd B p = 0 ↔ sg B p = -22 := by
  unfold kd sg
  split
  · simp
  · next h0 =>
    split
    · next h1 =>
      rcases wC_rng B p (eoL B p) with q | q
      · rw [q]; decide
      · constructor
        · intro z; exact absurd z (by decide)
        · intro z; rw [z] at q; exact absurd q.2 (by decide)
    · split
      · split
        · decide
        · next h3 =>
          constructor
          · intro z; exact absurd z (by decide)
          · intro z
            have := (num_nonneg h3).1
            rw [z] at this
            exact absurd this (by decide)
      · rcases sgC_rng (B p) with q | q
        · rw [q]; decide
        · have h1 := (signs_rng _ q).1
          have h2 := (signs_rng _ q).2.1
          constructor
          · intro z
            split at z <;> exact absurd z (by decide)
          · intro z
            rw [show (B p, sgC (B p)).2 = -22 from z] at h2
            exact absurd h2 (by decide)
def QR (g : Nat → Int32) (a : Nat → Nat → Int32) (which : Int32) (R : Sum Nat (Int32 × Int32 × Int32)) : Option Value → PH → Prop := fun r h' => match R with
  | .inl q => ∃ (v fr n e tk p : Int32) (w : Int64) (op : Int32), r = some (.int v) ∧ h' = hT g a fr n e tk p w op 1 (nI q)
  | .inr (x, y, z) => ∃ (fr n e tk p : Int32) (w : Int64) (op fl : Int32), r = some (.int (if which = 0 then x else if which = 1 then y else z)) ∧ h' = hT g a fr n e tk p w op 0 fl
theorem QR.len {g : Nat → Int32} {a : Nat → Nat → Int32} {which : Int32} {R : Sum Nat (Int32 × Int32 × Int32)} {r : Option Value} {h' : PH} (h : QR g a which R r h') : h'.length = 18 := by
  unfold QR at h
  split at h
  · obtain ⟨_, _, _, _, _, _, _, _, _, rfl⟩ := h; exact hT_len
  · obtain ⟨_, _, _, _, _, _, _, _, _, rfl⟩ := h; exact hT_len
theorem QR.no {g : Nat → Int32} {a : Nat → Nat → Int32} {which : Int32} {R : Sum Nat (Int32 × Int32 × Int32)} {q : Nat} (hR : R = .inl q) (v fr n e tk p : Int32) (w : Int64) (op : Int32) : QR g a which R (some (.int v)) (hT g a fr n e tk p w op 1 (nI q)) := by
  subst hR
  exact ⟨v, fr, n, e, tk, p, w, op, rfl, rfl⟩
theorem QR.yes {g : Nat → Int32} {a : Nat → Nat → Int32} {which : Int32} {R : Sum Nat (Int32 × Int32 × Int32)} {x y z v : Int32} (hR : R = .inr (x, y, z)) (hv : v = if which = 0 then x else if which = 1 then y else z) (fr n e tk p : Int32) (w : Int64) (op fl : Int32) : QR g a which R (some (.int v)) (hT g a fr n e tk p w op 0 fl) := by
  subst hR
  subst hv
  exact ⟨fr, n, e, tk, p, w, op, fl, rfl, rfl⟩

set_option maxHeartbeats 2000000 in
theorem e_X11_part {g : Nat → Int32} {a : Nat → Nat → Int32} {fr n : Nat} (hT0 : TxOK a fr n) {p : Nat} {w : Int64} {fl : Int32} (hw : wOK (Bt (a 1) fr n) p w) (hp : p ≤ n) {op : Int32} (hop : op = 0) {K : Prop} [Decidable K] : P0 40 0 0 mX11_part (0, ent 3 [.ref 0, .int (if K then 1 else 0)], [], hT g a (nI fr) (nI n) (nI (en (Bt (a 1) fr n) p)) (kd (Bt (a 1) fr n) p) (nI p) w op 0 fl) (QP g a fr n op (rPt (sg (Bt (a 1) fr n)) (nx (Bt (a 1) fr n)) (vA g) K p)) := by
  refine P0.b GX11_part 2 (ob := []) (cf' := (if (if K then 1 else 0) = 0 then 4 else 8, [some (.ref 0), some (.int (if K then 1 else 0)), none], [], hT g a (nI fr) (nI n) (nI (en (Bt (a 1) fr n) p)) (kd (Bt (a 1) fr n) p) (nI p) w op 0 fl)) rfl trivial ?_
  refine P0.ifB (fun h1 => ?_) (fun h1 => ?_)
  · refine P0.b GX11_part 1 (ob := []) (cf' := (5, [some (.ref 0), some (.int (if K then 1 else 0)), none], [.ref 0], hT g a (nI fr) (nI n) (nI (en (Bt (a 1) fr n) p)) (kd (Bt (a 1) fr n) p) (nI p) w op 0 fl)) rfl trivial ?_
    refine P0.cd (d0 := 0) (as := [.ref 0]) (rest := []) (r1 := none) (h1 := hT g a (nI fr) (nI n) (nI (en (Bt (a 1) fr n) p)) (kd (Bt (a 1) fr n) p) (nI p) w op 1 (nI p)) (st' := []) GX11_fail kX11_part_5 rfl ⟨_, _, rfl, rfl, .inl ⟨_, _, _, _, rfl, rfl⟩⟩ (Nat.le_of_ble_eq_true rfl) (Nat.le_of_ble_eq_true rfl) (e_fail_ok) (Nat.le_of_ble_eq_true rfl) rfl (Nat.le_of_ble_eq_true rfl) rfl ?_
    refine P0.b GX11_part 11 (ob := []) (cf' := (38, [some (.ref 0), some (.int (if K then 1 else 0)), some (.int 0)], [.int 59, .ref 0], hT g a (nI fr) (nI n) (nI (en (Bt (a 1) fr n) p)) (kd (Bt (a 1) fr n) p) (nI p) w op 1 (nI p))) rfl trivial ?_
    refine P0.cd (d0 := 0) (as := [.ref 0, .int 59]) (rest := []) (r1 := some (.int 0)) (h1 := hT g a (nI fr) (nI n) (nI (en (Bt (a 1) fr n) p)) (kd (Bt (a 1) fr n) p) (nI p) w op 1 (nI p)) (st' := [.int 0]) GX11_isSign kX11_part_38 rfl ⟨_, _, rfl, rfl, .inl ⟨_, _, _, _, rfl, rfl⟩⟩ (Nat.le_of_ble_eq_true rfl) (Nat.le_of_ble_eq_true rfl) (e_isSign_bad (c := 59)) (Nat.le_of_ble_eq_true rfl) rfl (Nat.le_of_ble_eq_true rfl) rfl ?_
    refine P0.b GX11_part 2 (ob := []) (cf' := (45, [some (.ref 0), some (.int (if K then 1 else 0)), some (.int 0)], [.ref 0], hT g a (nI fr) (nI n) (nI (en (Bt (a 1) fr n) p)) (kd (Bt (a 1) fr n) p) (nI p) w op 1 (nI p))) rfl trivial ?_
    refine P0.cd (d0 := 0) (as := [.ref 0]) (rest := []) (r1 := none) (h1 := hT g a (nI fr) (nI n) (nI (en (Bt (a 1) fr n) p)) (kd (Bt (a 1) fr n) p) (nI p) w op 1 (nI p)) (st' := []) GX11_fail kX11_part_45 rfl ⟨_, _, rfl, rfl, .inl ⟨_, _, _, _, rfl, rfl⟩⟩ (Nat.le_of_ble_eq_true rfl) (Nat.le_of_ble_eq_true rfl) (e_fail_bad) (Nat.le_of_ble_eq_true rfl) rfl (Nat.le_of_ble_eq_true rfl) rfl ?_
    refine P0.b GX11_part 4 (ob := []) (cf' := (60, [some (.ref 0), some (.int (if K then 1 else 0)), some (.int 0)], [.int 0], hT g a (nI fr) (nI n) (nI (en (Bt (a 1) fr n) p)) (kd (Bt (a 1) fr n) p) (nI p) w op 1 (nI p))) rfl trivial ?_
    exact P0.ri (by decide +kernel) rfl rfl (QP.no (rP_no h1) 0 (nI (en (Bt (a 1) fr n) p)) (kd (Bt (a 1) fr n) p) (nI p) w op)
  · refine P0.b GX11_part 4 (ob := []) (cf' := (16, [some (.ref 0), some (.int (if K then 1 else 0)), none], [.ref 0], hT g a (nI fr) (nI n) (nI (en (Bt (a 1) fr n) p)) (kd (Bt (a 1) fr n) p) (nI p) w op 0 fl)) rfl trivial ?_
    refine P0.cs (as := [.ref 0]) (rest := []) GX11_nextToken kX11_part_16 rfl ⟨_, _, rfl, rfl, .inl ⟨_, _, _, _, rfl, rfl⟩⟩ (Nat.le_of_ble_eq_true rfl) (Nat.le_of_ble_eq_true rfl) (P0.mono (e_X11_nextToken hT0 (en (Bt (a 1) fr n) p) (en_le hp) _ _ _ _ _ _) (Nat.le_of_ble_eq_true rfl) (Nat.zero_le _) (Nat.zero_le _) (fun _ _ q => q)) (Nat.le_of_ble_eq_true rfl) (fun _ _ q => q.len) ?_
    rintro _ _ ⟨w1, rfl, rfl, hw1⟩
    have hp1 := nx_le (f := a 1) (fr := fr) hp
    show P0 _ _ _ _ (19, [some (.ref 0), some (.int (if K then 1 else 0)), none], [], hT g a (nI fr) (nI n) (nI (en (Bt (a 1) fr n) (nx (Bt (a 1) fr n) p))) (kd (Bt (a 1) fr n) (nx (Bt (a 1) fr n) p)) (nI (nx (Bt (a 1) fr n) p)) w1 op 0 fl) _
    refine P0.b GX11_part 4 (ob := []) (cf' := (31, [some (.ref 0), some (.int (if K then 1 else 0)), none], [.ref 0], hT g a (nI fr) (nI n) (nI (en (Bt (a 1) fr n) (nx (Bt (a 1) fr n) p))) (kd (Bt (a 1) fr n) (nx (Bt (a 1) fr n) p)) (nI (nx (Bt (a 1) fr n) p)) w1 op 0 fl)) rfl trivial ?_
    refine P0.cs (as := [.ref 0]) (rest := []) GX11_either0 kX11_part_31 rfl ⟨_, _, rfl, rfl, .inl ⟨_, _, _, _, rfl, rfl⟩⟩ (Nat.le_of_ble_eq_true rfl) (Nat.le_of_ble_eq_true rfl) (P0.mono (e_X11_either0 hT0 hw1 hp1 (op := op) hop) (Nat.le_of_ble_eq_true rfl) (Nat.zero_le _) (Nat.zero_le _) (fun _ _ q => q)) (Nat.le_of_ble_eq_true rfl) (fun _ _ q => q.len) ?_
    rintro r1002 h1002 hq2
    have hq2 : QP g a fr n op (lvl (sg (Bt (a 1) fr n)) (nx (Bt (a 1) fr n)) (vA g) 5 0 (nx (Bt (a 1) fr n) p)) r1002 h1002 := hq2
    rcases hR2 : lvl (sg (Bt (a 1) fr n)) (nx (Bt (a 1) fr n)) (vA g) 5 0 (nx (Bt (a 1) fr n) p) with q2 | ⟨x2, p2⟩
    · rw [hR2] at hq2
      obtain ⟨v2, e2, tk2, pp2, w2, op2, rfl, rfl⟩ := hq2
      show P0 _ _ _ _ (34, [some (.ref 0), some (.int (if K then 1 else 0)), none], [.int v2], hT g a (nI fr) (nI n) e2 tk2 pp2 w2 op2 1 (nI q2)) _
      refine P0.b GX11_part 3 (ob := []) (cf' := (38, [some (.ref 0), some (.int (if K then 1 else 0)), some (.int v2)], [.int 59, .ref 0], hT g a (nI fr) (nI n) e2 tk2 pp2 w2 op2 1 (nI q2))) rfl trivial ?_
      refine P0.cd (d0 := 0) (as := [.ref 0, .int 59]) (rest := []) (r1 := some (.int 0)) (h1 := hT g a (nI fr) (nI n) e2 tk2 pp2 w2 op2 1 (nI q2)) (st' := [.int 0]) GX11_isSign kX11_part_38 rfl ⟨_, _, rfl, rfl, .inl ⟨_, _, _, _, rfl, rfl⟩⟩ (Nat.le_of_ble_eq_true rfl) (Nat.le_of_ble_eq_true rfl) (e_isSign_bad (c := 59)) (Nat.le_of_ble_eq_true rfl) rfl (Nat.le_of_ble_eq_true rfl) rfl ?_
      refine P0.b GX11_part 2 (ob := []) (cf' := (45, [some (.ref 0), some (.int (if K then 1 else 0)), some (.int v2)], [.ref 0], hT g a (nI fr) (nI n) e2 tk2 pp2 w2 op2 1 (nI q2))) rfl trivial ?_
      refine P0.cd (d0 := 0) (as := [.ref 0]) (rest := []) (r1 := none) (h1 := hT g a (nI fr) (nI n) e2 tk2 pp2 w2 op2 1 (nI q2)) (st' := []) GX11_fail kX11_part_45 rfl ⟨_, _, rfl, rfl, .inl ⟨_, _, _, _, rfl, rfl⟩⟩ (Nat.le_of_ble_eq_true rfl) (Nat.le_of_ble_eq_true rfl) (e_fail_bad) (Nat.le_of_ble_eq_true rfl) rfl (Nat.le_of_ble_eq_true rfl) rfl ?_
      refine P0.b GX11_part 4 (ob := []) (cf' := (60, [some (.ref 0), some (.int (if K then 1 else 0)), some (.int v2)], [.int v2], hT g a (nI fr) (nI n) e2 tk2 pp2 w2 op2 1 (nI q2))) rfl trivial ?_
      exact P0.ri (by decide +kernel) rfl rfl (QP.no (rP_bad h1 hR2) v2 e2 tk2 pp2 w2 op2)
    · rw [hR2] at hq2
      obtain ⟨w2, fl2, rfl, rfl, hw2, hp2⟩ := hq2
      show P0 _ _ _ _ (34, [some (.ref 0), some (.int (if K then 1 else 0)), none], [.int x2], hT g a (nI fr) (nI n) (nI (en (Bt (a 1) fr n) p2)) (kd (Bt (a 1) fr n) p2) (nI p2) w2 op 0 fl2) _
      refine P0.b GX11_part 3 (ob := []) (cf' := (38, [some (.ref 0), some (.int (if K then 1 else 0)), some (.int x2)], [.int 59, .ref 0], hT g a (nI fr) (nI n) (nI (en (Bt (a 1) fr n) p2)) (kd (Bt (a 1) fr n) p2) (nI p2) w2 op 0 fl2)) rfl trivial ?_
      refine P0.cd (d0 := 0) (as := [.ref 0, .int 59]) (rest := []) (r1 := some (.int (if sg (Bt (a 1) fr n) p2 = (-15) then 1 else 0))) (h1 := hT g a (nI fr) (nI n) (nI (en (Bt (a 1) fr n) p2)) (kd (Bt (a 1) fr n) p2) (nI p2) w2 op 0 fl2) (st' := [.int (if sg (Bt (a 1) fr n) p2 = (-15) then 1 else 0)]) GX11_isSign kX11_part_38 rfl ⟨_, _, rfl, rfl, .inl ⟨_, _, _, _, rfl, rfl⟩⟩ (Nat.le_of_ble_eq_true rfl) (Nat.le_of_ble_eq_true rfl) (e_isSign_ok hw2 (c := 59) (code := (-15)) (by decide +kernel)) (Nat.le_of_ble_eq_true rfl) rfl (Nat.le_of_ble_eq_true rfl) rfl ?_
      refine P0.b GX11_part 1 (ob := []) (cf' := (if (if sg (Bt (a 1) fr n) p2 = (-15) then 1 else 0) = 0 then 44 else 48, [some (.ref 0), some (.int (if K then 1 else 0)), some (.int x2)], [], hT g a (nI fr) (nI n) (nI (en (Bt (a 1) fr n) p2)) (kd (Bt (a 1) fr n) p2) (nI p2) w2 op 0 fl2)) rfl trivial ?_
      refine P0.ifB (fun h2 => ?_) (fun h2 => ?_)
      · refine P0.b GX11_part 1 (ob := []) (cf' := (45, [some (.ref 0), some (.int (if K then 1 else 0)), some (.int x2)], [.ref 0], hT g a (nI fr) (nI n) (nI (en (Bt (a 1) fr n) p2)) (kd (Bt (a 1) fr n) p2) (nI p2) w2 op 0 fl2)) rfl trivial ?_
        refine P0.cd (d0 := 0) (as := [.ref 0]) (rest := []) (r1 := none) (h1 := hT g a (nI fr) (nI n) (nI (en (Bt (a 1) fr n) p2)) (kd (Bt (a 1) fr n) p2) (nI p2) w2 op 1 (nI p2)) (st' := []) GX11_fail kX11_part_45 rfl ⟨_, _, rfl, rfl, .inl ⟨_, _, _, _, rfl, rfl⟩⟩ (Nat.le_of_ble_eq_true rfl) (Nat.le_of_ble_eq_true rfl) (e_fail_ok) (Nat.le_of_ble_eq_true rfl) rfl (Nat.le_of_ble_eq_true rfl) rfl ?_
        refine P0.b GX11_part 4 (ob := []) (cf' := (60, [some (.ref 0), some (.int (if K then 1 else 0)), some (.int x2)], [.int x2], hT g a (nI fr) (nI n) (nI (en (Bt (a 1) fr n) p2)) (kd (Bt (a 1) fr n) p2) (nI p2) w2 op 1 (nI p2))) rfl trivial ?_
        exact P0.ri (by decide +kernel) rfl rfl (QP.no (rP_nosemi h1 hR2 h2) x2 (nI (en (Bt (a 1) fr n) p2)) (kd (Bt (a 1) fr n) p2) (nI p2) w2 op)
      · refine P0.b GX11_part 4 (ob := []) (cf' := (56, [some (.ref 0), some (.int (if K then 1 else 0)), some (.int x2)], [.ref 0], hT g a (nI fr) (nI n) (nI (en (Bt (a 1) fr n) p2)) (kd (Bt (a 1) fr n) p2) (nI p2) w2 op 0 fl2)) rfl trivial ?_
        refine P0.cs (as := [.ref 0]) (rest := []) GX11_nextToken kX11_part_56 rfl ⟨_, _, rfl, rfl, .inl ⟨_, _, _, _, rfl, rfl⟩⟩ (Nat.le_of_ble_eq_true rfl) (Nat.le_of_ble_eq_true rfl) (P0.mono (e_X11_nextToken hT0 (en (Bt (a 1) fr n) p2) (en_le hp2) _ _ _ _ _ _) (Nat.le_of_ble_eq_true rfl) (Nat.zero_le _) (Nat.zero_le _) (fun _ _ q => q)) (Nat.le_of_ble_eq_true rfl) (fun _ _ q => q.len) ?_
        rintro _ _ ⟨w3, rfl, rfl, hw3⟩
        have hp3 := nx_le (f := a 1) (fr := fr) hp2
        show P0 _ _ _ _ (59, [some (.ref 0), some (.int (if K then 1 else 0)), some (.int x2)], [], hT g a (nI fr) (nI n) (nI (en (Bt (a 1) fr n) (nx (Bt (a 1) fr n) p2))) (kd (Bt (a 1) fr n) (nx (Bt (a 1) fr n) p2)) (nI (nx (Bt (a 1) fr n) p2)) w3 op 0 fl2) _
        refine P0.b GX11_part 1 (ob := []) (cf' := (60, [some (.ref 0), some (.int (if K then 1 else 0)), some (.int x2)], [.int x2], hT g a (nI fr) (nI n) (nI (en (Bt (a 1) fr n) (nx (Bt (a 1) fr n) p2))) (kd (Bt (a 1) fr n) (nx (Bt (a 1) fr n) p2)) (nI (nx (Bt (a 1) fr n) p2)) w3 op 0 fl2)) rfl trivial ?_
        exact P0.ri (by decide +kernel) rfl rfl (QP.yes (rP_semi h1 hR2 h2) hw3 hp3)
set_option maxHeartbeats 4000000 in
theorem e_X11_read {g : Nat → Int32} {a : Nat → Nat → Int32} {fr n t : Nat} (ht : t < 6) (hfr : fr = 160 * t) (hsz : a 2 t = nI n) (hT0 : TxOK a fr n) (which fr0 n0 e0 tk0 p0 : Int32) (w0 : Int64) (op0 bd0 fl0 : Int32) : P0 41 0 0 mX11_read (0, ent 6 [.ref 0, .int (nI t), .int which], [], hT g a fr0 n0 e0 tk0 p0 w0 op0 bd0 fl0) (QR g a which (rText (sg (Bt (a 1) fr n)) (nx (Bt (a 1) fr n)) (vA g) (skp (Bt (a 1) fr n) 0))) := by
  refine P0.b GX11_read 5 (ob := []) (cf' := (9, [some (.ref 0), some (.int (nI t)), some (.int which), none, none, none], [], hT g a (160 * (nI t)) n0 e0 tk0 p0 w0 op0 bd0 fl0)) rfl trivial ?_
  rw [show (160 : Int32) * nI t = nI fr from by rw [hfr]; exact pk_mul 160 t]
  refine P0.b GX11_read 6 (ob := [vp_in (nI t) 6]) (cf' := (19, [some (.ref 0), some (.int (nI t)), some (.int which), none, none, none], [], hT g a (nI fr) ((a 2) (nI t).toNatClampNeg) e0 tk0 p0 w0 op0 bd0 fl0)) rfl ⟨(vp_in_nI (show t < 6 from ht) (by decide)), trivial⟩ ?_
  rw [nI_clamp (show t < 2 ^ 31 by omega), hsz]
  refine P0.b GX11_read 3 (ob := []) (cf' := (24, [some (.ref 0), some (.int (nI t)), some (.int which), none, none, none], [], hT g a (nI fr) (nI n) 0 tk0 p0 w0 op0 bd0 fl0)) rfl trivial ?_
  refine P0.b GX11_read 3 (ob := []) (cf' := (29, [some (.ref 0), some (.int (nI t)), some (.int which), none, none, none], [], hT g a (nI fr) (nI n) 0 tk0 p0 w0 0 bd0 fl0)) rfl trivial ?_
  refine P0.b GX11_read 3 (ob := [0 = 0 ∨ 0 = 1]) (cf' := (34, [some (.ref 0), some (.int (nI t)), some (.int which), none, none, none], [], hT g a (nI fr) (nI n) 0 tk0 p0 w0 0 0 fl0)) rfl ⟨(.inl rfl), trivial⟩ ?_
  refine P0.b GX11_read 1 (ob := []) (cf' := (35, [some (.ref 0), some (.int (nI t)), some (.int which), none, none, none], [.ref 0], hT g a (nI fr) (nI n) 0 tk0 p0 w0 0 0 fl0)) rfl trivial ?_
  refine P0.cs (as := [.ref 0]) (rest := []) GX11_nextToken kX11_read_35 rfl ⟨_, _, rfl, rfl, .inl ⟨_, _, _, _, rfl, rfl⟩⟩ (Nat.le_of_ble_eq_true rfl) (Nat.le_of_ble_eq_true rfl) (P0.mono (e_X11_nextToken hT0 0 (Nat.zero_le _) _ _ _ _ _ _) (Nat.le_of_ble_eq_true rfl) (Nat.zero_le _) (Nat.zero_le _) (fun _ _ q => q)) (Nat.le_of_ble_eq_true rfl) (fun _ _ q => q.len) ?_
  rintro _ _ ⟨w4, rfl, rfl, hw4⟩
  have hp4 := skp_le (f := a 1) (fr := fr) (Nat.zero_le n)
  show P0 _ _ _ _ (38, [some (.ref 0), some (.int (nI t)), some (.int which), none, none, none], [], hT g a (nI fr) (nI n) (nI (en (Bt (a 1) fr n) (skp (Bt (a 1) fr n) 0))) (kd (Bt (a 1) fr n) (skp (Bt (a 1) fr n) 0)) (nI (skp (Bt (a 1) fr n) 0)) w4 0 0 fl0) _
  refine P0.b GX11_read 10 (ob := []) (cf' := (54, [some (.ref 0), some (.int (nI t)), some (.int which), none, none, none], [.int 0, .int 0, .int 115, .int 101, .int 109, .int 97, .int 104, .int 115, .ref 0, .ref 0], hT g a (nI fr) (nI n) (nI (en (Bt (a 1) fr n) (skp (Bt (a 1) fr n) 0))) (kd (Bt (a 1) fr n) (skp (Bt (a 1) fr n) 0)) (nI (skp (Bt (a 1) fr n) 0)) w4 0 0 fl0)) rfl trivial ?_
  refine P0.cd (d0 := 2) (as := [.ref 0, .int 115, .int 104, .int 97, .int 109, .int 101, .int 115, .int 0, .int 0]) (rest := [.ref 0]) (r1 := some (.int (if sg (Bt (a 1) fr n) (skp (Bt (a 1) fr n) 0) = (-7) then 1 else 0))) (h1 := hT g a (nI fr) (nI n) (nI (en (Bt (a 1) fr n) (skp (Bt (a 1) fr n) 0))) (kd (Bt (a 1) fr n) (skp (Bt (a 1) fr n) 0)) (nI (skp (Bt (a 1) fr n) 0)) w4 0 0 fl0) (st' := [.int (if sg (Bt (a 1) fr n) (skp (Bt (a 1) fr n) 0) = (-7) then 1 else 0), .ref 0]) GX11_isWord kX11_read_54 rfl ⟨_, _, rfl, rfl, .inl ⟨_, _, _, _, rfl, rfl⟩⟩ (Nat.le_of_ble_eq_true rfl) (Nat.le_of_ble_eq_true rfl) (e_isWord_ok hT0 hp4 (cs := [115, 104, 97, 109, 101, 115]) (code := (-7)) (by decide +kernel) (by decide) (by decide)) (Nat.le_of_ble_eq_true rfl) rfl (Nat.le_of_ble_eq_true rfl) rfl ?_
  refine P0.cs (as := [.ref 0, .int (if sg (Bt (a 1) fr n) (skp (Bt (a 1) fr n) 0) = (-7) then 1 else 0)]) (rest := []) GX11_part kX11_read_57 rfl ⟨_, _, rfl, rfl, .inl ⟨_, _, _, _, rfl, rfl⟩⟩ (Nat.le_of_ble_eq_true rfl) (Nat.le_of_ble_eq_true rfl) (P0.mono (e_X11_part hT0 hw4 hp4 (op := 0) rfl (K := sg (Bt (a 1) fr n) (skp (Bt (a 1) fr n) 0) = (-7))) (Nat.le_of_ble_eq_true rfl) (Nat.zero_le _) (Nat.zero_le _) (fun _ _ q => q)) (Nat.le_of_ble_eq_true rfl) (fun _ _ q => q.len) ?_
  rintro r1005 h1005 hq5
  have hq5 : QP g a fr n 0 (rPart (sg (Bt (a 1) fr n)) (nx (Bt (a 1) fr n)) (vA g) (-7) (skp (Bt (a 1) fr n) 0)) r1005 h1005 := hq5
  rcases hR5 : rPart (sg (Bt (a 1) fr n)) (nx (Bt (a 1) fr n)) (vA g) (-7) (skp (Bt (a 1) fr n) 0) with q5 | ⟨x5, p5⟩
  · rw [hR5] at hq5
    obtain ⟨v5, e5, tk5, pp5, w5, op5, rfl, rfl⟩ := hq5
    show P0 _ _ _ _ (60, [some (.ref 0), some (.int (nI t)), some (.int which), none, none, none], [.int v5], hT g a (nI fr) (nI n) e5 tk5 pp5 w5 op5 1 (nI q5)) _
    refine P0.b GX11_read 18 (ob := []) (cf' := (if which = 0 then 151 else 155, [some (.ref 0), some (.int (nI t)), some (.int which), some (.int v5), some (.int 0), some (.int 0)], [], hT g a (nI fr) (nI n) e5 tk5 pp5 w5 op5 1 (nI q5))) rfl trivial ?_
    refine P0.if (fun h1 => ?_) (fun h1 => ?_)
    · refine P0.b GX11_read 2 (ob := []) (cf' := (167, [some (.ref 0), some (.int (nI t)), some (.int which), some (.int v5), some (.int 0), some (.int 0)], [.int v5], hT g a (nI fr) (nI n) e5 tk5 pp5 w5 op5 1 (nI q5))) rfl trivial ?_
      exact P0.ri (by decide +kernel) rfl rfl (QR.no (rT_no1 hR5) v5 (nI fr) (nI n) e5 tk5 pp5 w5 op5)
    · refine P0.b GX11_read 3 (ob := []) (cf' := (if which = 1 then 160 else 165, [some (.ref 0), some (.int (nI t)), some (.int which), some (.int v5), some (.int 0), some (.int 0)], [], hT g a (nI fr) (nI n) e5 tk5 pp5 w5 op5 1 (nI q5))) rfl trivial ?_
      refine P0.if (fun h2 => ?_) (fun h2 => ?_)
      · refine P0.b GX11_read 2 (ob := []) (cf' := (167, [some (.ref 0), some (.int (nI t)), some (.int which), some (.int v5), some (.int 0), some (.int 0)], [.int 0], hT g a (nI fr) (nI n) e5 tk5 pp5 w5 op5 1 (nI q5))) rfl trivial ?_
        exact P0.ri (by decide +kernel) rfl rfl (QR.no (rT_no1 hR5) 0 (nI fr) (nI n) e5 tk5 pp5 w5 op5)
      · refine P0.b GX11_read 1 (ob := []) (cf' := (167, [some (.ref 0), some (.int (nI t)), some (.int which), some (.int v5), some (.int 0), some (.int 0)], [.int 0], hT g a (nI fr) (nI n) e5 tk5 pp5 w5 op5 1 (nI q5))) rfl trivial ?_
        exact P0.ri (by decide +kernel) rfl rfl (QR.no (rT_no1 hR5) 0 (nI fr) (nI n) e5 tk5 pp5 w5 op5)
  · rw [hR5] at hq5
    obtain ⟨w5, fl5, rfl, rfl, hw5, hp5⟩ := hq5
    show P0 _ _ _ _ (60, [some (.ref 0), some (.int (nI t)), some (.int which), none, none, none], [.int x5], hT g a (nI fr) (nI n) (nI (en (Bt (a 1) fr n) p5)) (kd (Bt (a 1) fr n) p5) (nI p5) w5 0 0 fl5) _
    refine P0.b GX11_read 14 (ob := []) (cf' := (87, [some (.ref 0), some (.int (nI t)), some (.int which), some (.int x5), none, none], [.int 0, .int 0, .int 0, .int 115, .int 116, .int 115, .int 111, .int 99, .ref 0, .ref 0], hT g a (nI fr) (nI n) (nI (en (Bt (a 1) fr n) p5)) (kd (Bt (a 1) fr n) p5) (nI p5) w5 0 0 fl5)) rfl trivial ?_
    refine P0.cd (d0 := 2) (as := [.ref 0, .int 99, .int 111, .int 115, .int 116, .int 115, .int 0, .int 0, .int 0]) (rest := [.ref 0]) (r1 := some (.int (if sg (Bt (a 1) fr n) p5 = (-8) then 1 else 0))) (h1 := hT g a (nI fr) (nI n) (nI (en (Bt (a 1) fr n) p5)) (kd (Bt (a 1) fr n) p5) (nI p5) w5 0 0 fl5) (st' := [.int (if sg (Bt (a 1) fr n) p5 = (-8) then 1 else 0), .ref 0]) GX11_isWord kX11_read_87 rfl ⟨_, _, rfl, rfl, .inl ⟨_, _, _, _, rfl, rfl⟩⟩ (Nat.le_of_ble_eq_true rfl) (Nat.le_of_ble_eq_true rfl) (e_isWord_ok hT0 hp5 (cs := [99, 111, 115, 116, 115]) (code := (-8)) (by decide +kernel) (by decide) (by decide)) (Nat.le_of_ble_eq_true rfl) rfl (Nat.le_of_ble_eq_true rfl) rfl ?_
    refine P0.cs (as := [.ref 0, .int (if sg (Bt (a 1) fr n) p5 = (-8) then 1 else 0)]) (rest := []) GX11_part kX11_read_90 rfl ⟨_, _, rfl, rfl, .inl ⟨_, _, _, _, rfl, rfl⟩⟩ (Nat.le_of_ble_eq_true rfl) (Nat.le_of_ble_eq_true rfl) (P0.mono (e_X11_part hT0 hw5 hp5 (op := 0) rfl (K := sg (Bt (a 1) fr n) p5 = (-8))) (Nat.le_of_ble_eq_true rfl) (Nat.zero_le _) (Nat.zero_le _) (fun _ _ q => q)) (Nat.le_of_ble_eq_true rfl) (fun _ _ q => q.len) ?_
    rintro r1006 h1006 hq6
    have hq6 : QP g a fr n 0 (rPart (sg (Bt (a 1) fr n)) (nx (Bt (a 1) fr n)) (vA g) (-8) p5) r1006 h1006 := hq6
    rcases hR6 : rPart (sg (Bt (a 1) fr n)) (nx (Bt (a 1) fr n)) (vA g) (-8) p5 with q6 | ⟨x6, p6⟩
    · rw [hR6] at hq6
      obtain ⟨v6, e6, tk6, pp6, w6, op6, rfl, rfl⟩ := hq6
      show P0 _ _ _ _ (93, [some (.ref 0), some (.int (nI t)), some (.int which), some (.int x5), none, none], [.int v6], hT g a (nI fr) (nI n) e6 tk6 pp6 w6 op6 1 (nI q6)) _
      refine P0.b GX11_read 12 (ob := []) (cf' := (if which = 0 then 151 else 155, [some (.ref 0), some (.int (nI t)), some (.int which), some (.int x5), some (.int v6), some (.int 0)], [], hT g a (nI fr) (nI n) e6 tk6 pp6 w6 op6 1 (nI q6))) rfl trivial ?_
      refine P0.if (fun h3 => ?_) (fun h3 => ?_)
      · refine P0.b GX11_read 2 (ob := []) (cf' := (167, [some (.ref 0), some (.int (nI t)), some (.int which), some (.int x5), some (.int v6), some (.int 0)], [.int x5], hT g a (nI fr) (nI n) e6 tk6 pp6 w6 op6 1 (nI q6))) rfl trivial ?_
        exact P0.ri (by decide +kernel) rfl rfl (QR.no (rT_no2 hR5 hR6) x5 (nI fr) (nI n) e6 tk6 pp6 w6 op6)
      · refine P0.b GX11_read 3 (ob := []) (cf' := (if which = 1 then 160 else 165, [some (.ref 0), some (.int (nI t)), some (.int which), some (.int x5), some (.int v6), some (.int 0)], [], hT g a (nI fr) (nI n) e6 tk6 pp6 w6 op6 1 (nI q6))) rfl trivial ?_
        refine P0.if (fun h4 => ?_) (fun h4 => ?_)
        · refine P0.b GX11_read 2 (ob := []) (cf' := (167, [some (.ref 0), some (.int (nI t)), some (.int which), some (.int x5), some (.int v6), some (.int 0)], [.int v6], hT g a (nI fr) (nI n) e6 tk6 pp6 w6 op6 1 (nI q6))) rfl trivial ?_
          exact P0.ri (by decide +kernel) rfl rfl (QR.no (rT_no2 hR5 hR6) v6 (nI fr) (nI n) e6 tk6 pp6 w6 op6)
        · refine P0.b GX11_read 1 (ob := []) (cf' := (167, [some (.ref 0), some (.int (nI t)), some (.int which), some (.int x5), some (.int v6), some (.int 0)], [.int 0], hT g a (nI fr) (nI n) e6 tk6 pp6 w6 op6 1 (nI q6))) rfl trivial ?_
          exact P0.ri (by decide +kernel) rfl rfl (QR.no (rT_no2 hR5 hR6) 0 (nI fr) (nI n) e6 tk6 pp6 w6 op6)
    · rw [hR6] at hq6
      obtain ⟨w6, fl6, rfl, rfl, hw6, hp6⟩ := hq6
      show P0 _ _ _ _ (93, [some (.ref 0), some (.int (nI t)), some (.int which), some (.int x5), none, none], [.int x6], hT g a (nI fr) (nI n) (nI (en (Bt (a 1) fr n) p6)) (kd (Bt (a 1) fr n) p6) (nI p6) w6 0 0 fl6) _
      refine P0.b GX11_read 14 (ob := []) (cf' := (121, [some (.ref 0), some (.int (nI t)), some (.int which), some (.int x5), some (.int x6), none], [.int 0, .int 0, .int 0, .int 104, .int 116, .int 114, .int 111, .int 119, .ref 0, .ref 0], hT g a (nI fr) (nI n) (nI (en (Bt (a 1) fr n) p6)) (kd (Bt (a 1) fr n) p6) (nI p6) w6 0 0 fl6)) rfl trivial ?_
      refine P0.cd (d0 := 2) (as := [.ref 0, .int 119, .int 111, .int 114, .int 116, .int 104, .int 0, .int 0, .int 0]) (rest := [.ref 0]) (r1 := some (.int (if sg (Bt (a 1) fr n) p6 = (-9) then 1 else 0))) (h1 := hT g a (nI fr) (nI n) (nI (en (Bt (a 1) fr n) p6)) (kd (Bt (a 1) fr n) p6) (nI p6) w6 0 0 fl6) (st' := [.int (if sg (Bt (a 1) fr n) p6 = (-9) then 1 else 0), .ref 0]) GX11_isWord kX11_read_121 rfl ⟨_, _, rfl, rfl, .inl ⟨_, _, _, _, rfl, rfl⟩⟩ (Nat.le_of_ble_eq_true rfl) (Nat.le_of_ble_eq_true rfl) (e_isWord_ok hT0 hp6 (cs := [119, 111, 114, 116, 104]) (code := (-9)) (by decide +kernel) (by decide) (by decide)) (Nat.le_of_ble_eq_true rfl) rfl (Nat.le_of_ble_eq_true rfl) rfl ?_
      refine P0.cs (as := [.ref 0, .int (if sg (Bt (a 1) fr n) p6 = (-9) then 1 else 0)]) (rest := []) GX11_part kX11_read_124 rfl ⟨_, _, rfl, rfl, .inl ⟨_, _, _, _, rfl, rfl⟩⟩ (Nat.le_of_ble_eq_true rfl) (Nat.le_of_ble_eq_true rfl) (P0.mono (e_X11_part hT0 hw6 hp6 (op := 0) rfl (K := sg (Bt (a 1) fr n) p6 = (-9))) (Nat.le_of_ble_eq_true rfl) (Nat.zero_le _) (Nat.zero_le _) (fun _ _ q => q)) (Nat.le_of_ble_eq_true rfl) (fun _ _ q => q.len) ?_
      rintro r1007 h1007 hq7
      have hq7 : QP g a fr n 0 (rPart (sg (Bt (a 1) fr n)) (nx (Bt (a 1) fr n)) (vA g) (-9) p6) r1007 h1007 := hq7
      rcases hR7 : rPart (sg (Bt (a 1) fr n)) (nx (Bt (a 1) fr n)) (vA g) (-9) p6 with q7 | ⟨x7, p7⟩
      · rw [hR7] at hq7
        obtain ⟨v7, e7, tk7, pp7, w7, op7, rfl, rfl⟩ := hq7
        show P0 _ _ _ _ (127, [some (.ref 0), some (.int (nI t)), some (.int which), some (.int x5), some (.int x6), none], [.int v7], hT g a (nI fr) (nI n) e7 tk7 pp7 w7 op7 1 (nI q7)) _
        refine P0.b GX11_read 6 (ob := []) (cf' := (if which = 0 then 151 else 155, [some (.ref 0), some (.int (nI t)), some (.int which), some (.int x5), some (.int x6), some (.int v7)], [], hT g a (nI fr) (nI n) e7 tk7 pp7 w7 op7 1 (nI q7))) rfl trivial ?_
        refine P0.if (fun h5 => ?_) (fun h5 => ?_)
        · refine P0.b GX11_read 2 (ob := []) (cf' := (167, [some (.ref 0), some (.int (nI t)), some (.int which), some (.int x5), some (.int x6), some (.int v7)], [.int x5], hT g a (nI fr) (nI n) e7 tk7 pp7 w7 op7 1 (nI q7))) rfl trivial ?_
          exact P0.ri (by decide +kernel) rfl rfl (QR.no (rT_no3 hR5 hR6 hR7) x5 (nI fr) (nI n) e7 tk7 pp7 w7 op7)
        · refine P0.b GX11_read 3 (ob := []) (cf' := (if which = 1 then 160 else 165, [some (.ref 0), some (.int (nI t)), some (.int which), some (.int x5), some (.int x6), some (.int v7)], [], hT g a (nI fr) (nI n) e7 tk7 pp7 w7 op7 1 (nI q7))) rfl trivial ?_
          refine P0.if (fun h6 => ?_) (fun h6 => ?_)
          · refine P0.b GX11_read 2 (ob := []) (cf' := (167, [some (.ref 0), some (.int (nI t)), some (.int which), some (.int x5), some (.int x6), some (.int v7)], [.int x6], hT g a (nI fr) (nI n) e7 tk7 pp7 w7 op7 1 (nI q7))) rfl trivial ?_
            exact P0.ri (by decide +kernel) rfl rfl (QR.no (rT_no3 hR5 hR6 hR7) x6 (nI fr) (nI n) e7 tk7 pp7 w7 op7)
          · refine P0.b GX11_read 1 (ob := []) (cf' := (167, [some (.ref 0), some (.int (nI t)), some (.int which), some (.int x5), some (.int x6), some (.int v7)], [.int v7], hT g a (nI fr) (nI n) e7 tk7 pp7 w7 op7 1 (nI q7))) rfl trivial ?_
            exact P0.ri (by decide +kernel) rfl rfl (QR.no (rT_no3 hR5 hR6 hR7) v7 (nI fr) (nI n) e7 tk7 pp7 w7 op7)
      · rw [hR7] at hq7
        obtain ⟨w7, fl7, rfl, rfl, hw7, hp7⟩ := hq7
        show P0 _ _ _ _ (127, [some (.ref 0), some (.int (nI t)), some (.int which), some (.int x5), some (.int x6), none], [.int x7], hT g a (nI fr) (nI n) (nI (en (Bt (a 1) fr n) p7)) (kd (Bt (a 1) fr n) p7) (nI p7) w7 0 0 fl7) _
        refine P0.b GX11_read 7 (ob := []) (cf' := (if kd (Bt (a 1) fr n) p7 = 0 then 147 else 143, [some (.ref 0), some (.int (nI t)), some (.int which), some (.int x5), some (.int x6), some (.int x7)], [], hT g a (nI fr) (nI n) (nI (en (Bt (a 1) fr n) p7)) (kd (Bt (a 1) fr n) p7) (nI p7) w7 0 0 fl7)) rfl trivial ?_
        refine P0.if (fun h7 => ?_) (fun h7 => ?_)
        · refine P0.b GX11_read 2 (ob := []) (cf' := (if which = 0 then 151 else 155, [some (.ref 0), some (.int (nI t)), some (.int which), some (.int x5), some (.int x6), some (.int x7)], [], hT g a (nI fr) (nI n) (nI (en (Bt (a 1) fr n) p7)) (kd (Bt (a 1) fr n) p7) (nI p7) w7 0 0 fl7)) rfl trivial ?_
          refine P0.if (fun h8 => ?_) (fun h8 => ?_)
          · refine P0.b GX11_read 2 (ob := []) (cf' := (167, [some (.ref 0), some (.int (nI t)), some (.int which), some (.int x5), some (.int x6), some (.int x7)], [.int x5], hT g a (nI fr) (nI n) (nI (en (Bt (a 1) fr n) p7)) (kd (Bt (a 1) fr n) p7) (nI p7) w7 0 0 fl7)) rfl trivial ?_
            exact P0.ri (by decide +kernel) rfl rfl (QR.yes (rT_yes hR5 hR6 hR7 (kd0.mp h7)) (by simp [h8]) (nI fr) (nI n) (nI (en (Bt (a 1) fr n) p7)) (kd (Bt (a 1) fr n) p7) (nI p7) w7 0 fl7)
          · refine P0.b GX11_read 3 (ob := []) (cf' := (if which = 1 then 160 else 165, [some (.ref 0), some (.int (nI t)), some (.int which), some (.int x5), some (.int x6), some (.int x7)], [], hT g a (nI fr) (nI n) (nI (en (Bt (a 1) fr n) p7)) (kd (Bt (a 1) fr n) p7) (nI p7) w7 0 0 fl7)) rfl trivial ?_
            refine P0.if (fun h9 => ?_) (fun h9 => ?_)
            · refine P0.b GX11_read 2 (ob := []) (cf' := (167, [some (.ref 0), some (.int (nI t)), some (.int which), some (.int x5), some (.int x6), some (.int x7)], [.int x6], hT g a (nI fr) (nI n) (nI (en (Bt (a 1) fr n) p7)) (kd (Bt (a 1) fr n) p7) (nI p7) w7 0 0 fl7)) rfl trivial ?_
              exact P0.ri (by decide +kernel) rfl rfl (QR.yes (rT_yes hR5 hR6 hR7 (kd0.mp h7)) (by simp [h8, h9]) (nI fr) (nI n) (nI (en (Bt (a 1) fr n) p7)) (kd (Bt (a 1) fr n) p7) (nI p7) w7 0 fl7)
            · refine P0.b GX11_read 1 (ob := []) (cf' := (167, [some (.ref 0), some (.int (nI t)), some (.int which), some (.int x5), some (.int x6), some (.int x7)], [.int x7], hT g a (nI fr) (nI n) (nI (en (Bt (a 1) fr n) p7)) (kd (Bt (a 1) fr n) p7) (nI p7) w7 0 0 fl7)) rfl trivial ?_
              exact P0.ri (by decide +kernel) rfl rfl (QR.yes (rT_yes hR5 hR6 hR7 (kd0.mp h7)) (by simp [h8, h9]) (nI fr) (nI n) (nI (en (Bt (a 1) fr n) p7)) (kd (Bt (a 1) fr n) p7) (nI p7) w7 0 fl7)
        · refine P0.b GX11_read 1 (ob := []) (cf' := (144, [some (.ref 0), some (.int (nI t)), some (.int which), some (.int x5), some (.int x6), some (.int x7)], [.ref 0], hT g a (nI fr) (nI n) (nI (en (Bt (a 1) fr n) p7)) (kd (Bt (a 1) fr n) p7) (nI p7) w7 0 0 fl7)) rfl trivial ?_
          refine P0.cd (d0 := 0) (as := [.ref 0]) (rest := []) (r1 := none) (h1 := hT g a (nI fr) (nI n) (nI (en (Bt (a 1) fr n) p7)) (kd (Bt (a 1) fr n) p7) (nI p7) w7 0 1 (nI p7)) (st' := []) GX11_fail kX11_read_144 rfl ⟨_, _, rfl, rfl, .inl ⟨_, _, _, _, rfl, rfl⟩⟩ (Nat.le_of_ble_eq_true rfl) (Nat.le_of_ble_eq_true rfl) (e_fail_ok) (Nat.le_of_ble_eq_true rfl) rfl (Nat.le_of_ble_eq_true rfl) rfl ?_
          refine P0.b GX11_read 2 (ob := []) (cf' := (if which = 0 then 151 else 155, [some (.ref 0), some (.int (nI t)), some (.int which), some (.int x5), some (.int x6), some (.int x7)], [], hT g a (nI fr) (nI n) (nI (en (Bt (a 1) fr n) p7)) (kd (Bt (a 1) fr n) p7) (nI p7) w7 0 1 (nI p7))) rfl trivial ?_
          refine P0.if (fun h10 => ?_) (fun h10 => ?_)
          · refine P0.b GX11_read 2 (ob := []) (cf' := (167, [some (.ref 0), some (.int (nI t)), some (.int which), some (.int x5), some (.int x6), some (.int x7)], [.int x5], hT g a (nI fr) (nI n) (nI (en (Bt (a 1) fr n) p7)) (kd (Bt (a 1) fr n) p7) (nI p7) w7 0 1 (nI p7))) rfl trivial ?_
            exact P0.ri (by decide +kernel) rfl rfl (QR.no (rT_no4 hR5 hR6 hR7 (fun z => h7 (kd0.mpr z))) x5 (nI fr) (nI n) (nI (en (Bt (a 1) fr n) p7)) (kd (Bt (a 1) fr n) p7) (nI p7) w7 0)
          · refine P0.b GX11_read 3 (ob := []) (cf' := (if which = 1 then 160 else 165, [some (.ref 0), some (.int (nI t)), some (.int which), some (.int x5), some (.int x6), some (.int x7)], [], hT g a (nI fr) (nI n) (nI (en (Bt (a 1) fr n) p7)) (kd (Bt (a 1) fr n) p7) (nI p7) w7 0 1 (nI p7))) rfl trivial ?_
            refine P0.if (fun h11 => ?_) (fun h11 => ?_)
            · refine P0.b GX11_read 2 (ob := []) (cf' := (167, [some (.ref 0), some (.int (nI t)), some (.int which), some (.int x5), some (.int x6), some (.int x7)], [.int x6], hT g a (nI fr) (nI n) (nI (en (Bt (a 1) fr n) p7)) (kd (Bt (a 1) fr n) p7) (nI p7) w7 0 1 (nI p7))) rfl trivial ?_
              exact P0.ri (by decide +kernel) rfl rfl (QR.no (rT_no4 hR5 hR6 hR7 (fun z => h7 (kd0.mpr z))) x6 (nI fr) (nI n) (nI (en (Bt (a 1) fr n) p7)) (kd (Bt (a 1) fr n) p7) (nI p7) w7 0)
            · refine P0.b GX11_read 1 (ob := []) (cf' := (167, [some (.ref 0), some (.int (nI t)), some (.int which), some (.int x5), some (.int x6), some (.int x7)], [.int x7], hT g a (nI fr) (nI n) (nI (en (Bt (a 1) fr n) p7)) (kd (Bt (a 1) fr n) p7) (nI p7) w7 0 1 (nI p7))) rfl trivial ?_
              exact P0.ri (by decide +kernel) rfl rfl (QR.no (rT_no4 hR5 hR6 hR7 (fun z => h7 (kd0.mpr z))) x7 (nI fr) (nI n) (nI (en (Bt (a 1) fr n) p7)) (kd (Bt (a 1) fr n) p7) (nI p7) w7 0)
