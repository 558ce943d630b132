/-! ===== the grammar, over signs S and places, with values of any kind ===== -/
abbrev PR (X : Type) : Type := Sum Nat (X × Nat)
def pbind {X Y : Type} (r : PR X) (f : X → Nat → PR Y) : PR Y := match r with
  | .inl q => .inl q
  | .inr (x, p) => f x p
abbrev ALG (X : Type) : Type := (Int32 → X) × (Int32 → X → X) × (Int32 → X → X → X)
def pch {X : Type} (S : Nat → Int32) (nxt : Nat → Nat) (bn : Int32 → X → X → X) (jn : Int32 → Bool) (lk : Nat → PR X) : Nat → X → Nat → PR X
  | 0, x, p => .inr (x, p)
  | f + 1, x, p => bif jn (S p) then pbind (lk (nxt p)) (fun y p' => pch S nxt bn jn lk f (bn (S p) x y) p') else .inr (x, p)
def pc0 {X : Type} (S : Nat → Int32) (nxt : Nat → Nat) (bn : Int32 → X → X → X) (jn : Int32 → Bool) (lk : Nat → PR X) (p : Nat) : PR X := pbind (lk p) (fun x p' => pch S nxt bn jn lk 200 x p')
def jTerm (s : Int32) : Bool := decide (s = -18)
def jSum (s : Int32) : Bool := decide (s = -16 ∨ s = -17)
def jBoth (s : Int32) : Bool := decide (s = -11)
def jEith (s : Int32) : Bool := decide (s = -10)
def pone {X : Type} (S : Nat → Int32) (nxt : Nat → Nat) (A : ALG X) (ok : Bool) (dE dO : Nat → PR X) (p : Nat) : PR X :=
  if -6 ≤ S p then .inr (A.1 (S p), nxt p)
  else if S p = -17 then (bif ok then pbind (dO (nxt p)) (fun x p' => .inr (A.2.1 (-21) x, p')) else .inl p)
  else if S p = -13 then (bif ok then pbind (dE (nxt p)) (fun x p' => if S p' = -14 then .inr (x, nxt p') else .inl p') else .inl p)
  else .inl p
def pterm {X : Type} (S : Nat → Int32) (nxt : Nat → Nat) (A : ALG X) (ok : Bool) (dE dO : Nat → PR X) : Nat → PR X := pc0 S nxt A.2.2 jTerm (pone S nxt A ok dE dO)
def psum {X : Type} (S : Nat → Int32) (nxt : Nat → Nat) (A : ALG X) (ok : Bool) (dE dO : Nat → PR X) : Nat → PR X := pc0 S nxt A.2.2 jSum (pterm S nxt A ok dE dO)
def pnot {X : Type} (S : Nat → Int32) (nxt : Nat → Nat) (A : ALG X) (ok : Bool) (dE dN dO : Nat → PR X) (p : Nat) : PR X :=
  if S p = -12 then (bif ok then pbind (dN (nxt p)) (fun x p' => .inr (A.2.1 (-12) x, p')) else .inl p)
  else pbind (psum S nxt A ok dE dO p) (fun x p1 => if S p1 = -19 ∨ S p1 = -20 then pbind (psum S nxt A ok dE dO (nxt p1)) (fun y p2 => .inr (A.2.2 (S p1) x y, p2)) else .inr (x, p1))
def pboth {X : Type} (S : Nat → Int32) (nxt : Nat → Nat) (A : ALG X) (ok : Bool) (dE dN dO : Nat → PR X) : Nat → PR X := pc0 S nxt A.2.2 jBoth (pnot S nxt A ok dE dN dO)
def peith {X : Type} (S : Nat → Int32) (nxt : Nat → Nat) (A : ALG X) (ok : Bool) (dE dN dO : Nat → PR X) : Nat → PR X := pc0 S nxt A.2.2 jEith (pboth S nxt A ok dE dN dO)
/-- r more may be opened: 0 an E, 1 a NOT, 2 a ONE -/
def lvl {X : Type} (S : Nat → Int32) (nxt : Nat → Nat) (A : ALG X) : Nat → Nat → Nat → PR X
  | 0, k, p => match k with
    | 0 => peith S nxt A false .inl .inl .inl p
    | 1 => pnot S nxt A false .inl .inl .inl p
    | _ => pone S nxt A false .inl .inl p
  | r + 1, k, p => match k with
    | 0 => peith S nxt A true (lvl S nxt A r 0) (lvl S nxt A r 1) (lvl S nxt A r 2) p
    | 1 => pnot S nxt A true (lvl S nxt A r 0) (lvl S nxt A r 1) (lvl S nxt A r 2) p
    | _ => pone S nxt A true (lvl S nxt A r 0) (lvl S nxt A r 2) p
/-- the values: what the names stand for are six ints -/
def vNm (g : Nat → Int32) (s : Int32) : Int32 := if s = -1 then g 12 else if s = -2 then g 13 else if s = -3 then g 14 else if s = -4 then g 15 else if s = -5 then g 16 else if s = -6 then g 17 else s
def vUn (s x : Int32) : Int32 := if s = -21 then -x else if x = 0 then 1 else 0
def vBn (s x y : Int32) : Int32 := if s = -10 then (if x ≠ 0 ∨ y ≠ 0 then 1 else 0) else if s = -11 then (if x ≠ 0 ∧ y ≠ 0 then 1 else 0) else if s = -19 then (if x < y then 1 else 0) else if s = -20 then (if x = y then 1 else 0) else if s = -16 then x + y else if s = -17 then x - y else x * y
def vA (g : Nat → Int32) : ALG Int32 := (vNm g, vUn, vBn)
/-- the end of a reading method of the reference -/
def QP (g : Nat → Int32) (a : Nat → Nat → Int32) (fr n : Nat) (op : Int32) (R : PR Int32) : Option Value → PH → Prop := fun r h' => match R with
  | .inl q => ∃ (v e tk p : Int32) (w : Int64) (op' : Int32), r = some (.int v) ∧ h' = hT g a (nI fr) (nI n) e tk p w op' 1 (nI q)
  | .inr (x, p) => ∃ (w : Int64) (fl : Int32), r = some (.int x) ∧ h' = hT g a (nI fr) (nI n) (nI (en (Bt (a 1) fr n) p)) (kd (Bt (a 1) fr n) p) (nI p) w op 0 fl ∧ wOK (Bt (a 1) fr n) p w ∧ p ≤ n
theorem QP.len {g : Nat → Int32} {a : Nat → Nat → Int32} {fr n : Nat} {op : Int32} {R : PR Int32} {r : Option Value} {h' : PH} (h : QP g a fr n op R r h') : h'.length = 18 := by
  unfold QP at h
  split at h
  · obtain ⟨_, _, _, _, _, _, _, rfl⟩ := h; rfl
  · obtain ⟨_, _, _, rfl, _⟩ := h; rfl
theorem QnT.len {g : Nat → Int32} {a : Nat → Nat → Int32} {fr n q : Nat} {op bd fl : Int32} {r : Option Value} {h' : PH} (h : QnT g a fr n q op bd fl r h') : h'.length = 18 := by
  obtain ⟨_, _, rfl, _⟩ := h; rfl
theorem QP.no {g : Nat → Int32} {a : Nat → Nat → Int32} {fr n : Nat} {op : Int32} {R : PR Int32} {q : Nat} (hR : R = .inl q) (v e tk p : Int32) (w : Int64) (op' : Int32) : QP g a fr n op R (some (.int v)) (hT g a (nI fr) (nI n) e tk p w op' 1 (nI q)) := by
  subst hR
  exact ⟨v, e, tk, p, w, op', rfl, rfl⟩
theorem QP.yes {g : Nat → Int32} {a : Nat → Nat → Int32} {fr n : Nat} {op : Int32} {R : PR Int32} {x : Int32} {p : Nat} (hR : R = .inr (x, p)) {w : Int64} {fl : Int32} (hw : wOK (Bt (a 1) fr n) p w) (hp : p ≤ n) : QP g a fr n op R (some (.int x)) (hT g a (nI fr) (nI n) (nI (en (Bt (a 1) fr n) p)) (kd (Bt (a 1) fr n) p) (nI p) w op 0 fl) := by
  subst hR
  exact ⟨w, fl, rfl, rfl, hw, hp⟩
theorem kd2 {B : Nat → Int32} {p : Nat} (h : kd B p = 2) : 0 ≤ sg B p := by
  unfold kd at h
  unfold sg
  split at h
  · exact absurd h (by decide)
  · next h0 =>
    rw [if_neg h0]
    split at h
    · exact absurd h (by decide)
    · next h1 =>
      rw [if_neg h1]
      split at h
      · next h2 =>
        rw [if_pos h2]
        split at h
        · exact absurd h (by decide)
        · next h3 => rw [if_neg h3]; exact (num_nonneg h3).1
      · split at h <;> exact absurd h (by decide)
theorem kdN {B : Nat → Int32} {p : Nat} (h2 : ¬ kd B p = 2) (h1 : ¬ kd B p = 1) : ¬ -6 ≤ sg B p := by
  unfold kd at h1 h2
  unfold sg
  split at h1
  · next h0 => rw [if_pos h0]; decide
  · next h0 =>
    rw [if_neg h0]
    rw [if_neg h0] at h2
    split at h1
    · exact absurd rfl h1
    · next g1 =>
      rw [if_neg g1]
      rw [if_neg g1] at h2
      split at h1
      · next g2 =>
        rw [if_pos g2]
        rw [if_pos g2] at h2
        split at h1
        · next g3 => rw [if_pos g3]; decide
        · next g3 => rw [if_neg g3] at h2; exact absurd rfl h2
      · next g2 =>
        rw [if_neg g2]
        rcases sgC_rng (B p) with q | q
        · rw [q]; decide
        · intro z
          have := (signs_rng _ q).1
          exact absurd (Int32.le_trans z this) (by decide)
theorem kd1 {B : Nat → Int32} {p : Nat} (h1 : kd B p = 1) : sg B p = -23 ∨ (sg B p ≤ -1 ∧ -12 ≤ sg B p) := by
  obtain ⟨a1, a2⟩ := (kd_word B p).mp h1
  unfold sg
  rw [if_neg a1, if_pos a2]
  exact wC_rng B p _
theorem w2 {B : Nat → Int32} {p : Nat} {w : Int64} (hw : wOK B p w) (h : kd B p = 2) : w.toInt32 = sg B p := by
  rw [hw.1 h]
  simp
theorem sB_of {B : Nat → Int32} {p : Nat} {c code : Int32} (hm : (c, code) ∈ signs) (h : sg B p = code) {w : Int64} (hw : wOK B p w) : w = c.toInt64 := ((sign_iff hw hm).mpr h).2
