/-! ===== laid by program (wip/tools) ===== -/
theorem pch_step {X : Type} {S : Nat → Int32} {nxt : Nat → Nat} {bn : Int32 → X → X → X} {jn : Int32 → Bool} {lk : Nat → PR X} {f : Nat} {x y : X} {p p' : Nat} (hj : jn (S p) = true) (hl : lk (nxt p) = .inr (y, p')) : pch S nxt bn jn lk (f + 1) x p = pch S nxt bn jn lk f (bn (S p) x y) p' := by
  conv => lhs; unfold pch
  rw [hj, hl]
  rfl
theorem pch_fail {X : Type} {S : Nat → Int32} {nxt : Nat → Nat} {bn : Int32 → X → X → X} {jn : Int32 → Bool} {lk : Nat → PR X} {f : Nat} {x : X} {p q : Nat} (hj : jn (S p) = true) (hl : lk (nxt p) = .inl q) : pch S nxt bn jn lk (f + 1) x p = .inl q := by
  unfold pch
  rw [hj, hl]
  rfl
theorem pch_stop {X : Type} {S : Nat → Int32} {nxt : Nat → Nat} {bn : Int32 → X → X → X} {jn : Int32 → Bool} {lk : Nat → PR X} {f : Nat} {x : X} {p : Nat} (hj : jn (S p) = false) : pch S nxt bn jn lk f x p = .inr (x, p) := by
  cases f with
  | zero => rfl
  | succ f => unfold pch; rw [hj]; rfl
theorem pc0_yes {X : Type} {S : Nat → Int32} {nxt : Nat → Nat} {bn : Int32 → X → X → X} {jn : Int32 → Bool} {lk : Nat → PR X} {x : X} {p p' : Nat} (hl : lk p = .inr (x, p')) : pc0 S nxt bn jn lk p = pch S nxt bn jn lk 200 x p' := by
  unfold pc0
  rw [hl]
  rfl
theorem pc0_no {X : Type} {S : Nat → Int32} {nxt : Nat → Nat} {bn : Int32 → X → X → X} {jn : Int32 → Bool} {lk : Nat → PR X} {p q : Nat} (hl : lk p = .inl q) : pc0 S nxt bn jn lk p = .inl q := by
  unfold pc0
  rw [hl]
  rfl
theorem pnot_not {X : Type} {S : Nat → Int32} {nxt : Nat → Nat} {A : ALG X} {ok : Bool} {dE dN dO : Nat → PR X} {p : Nat} (h : S p = -12) : pnot S nxt A ok dE dN dO p = (bif ok then pbind (dN (nxt p)) (fun x p' => .inr (A.2.1 (-12) x, p')) else .inl p) := by
  unfold pnot
  rw [if_pos h]
theorem pnot_not_no {X : Type} {S : Nat → Int32} {nxt : Nat → Nat} {A : ALG X} {dE dN dO : Nat → PR X} {p q : Nat} (h : S p = -12) (hr : dN (nxt p) = .inl q) : pnot S nxt A true dE dN dO p = .inl q := by
  rw [pnot_not h, cond_true, hr]; rfl
theorem pnot_not_yes {X : Type} {S : Nat → Int32} {nxt : Nat → Nat} {A : ALG X} {dE dN dO : Nat → PR X} {p p' : Nat} {x y : X} (h : S p = -12) (hr : dN (nxt p) = .inr (x, p')) (hy : A.2.1 (-12) x = y) : pnot S nxt A true dE dN dO p = .inr (y, p') := by
  rw [pnot_not h, cond_true, hr, ← hy]; rfl
theorem pnot_sum {X : Type} {S : Nat → Int32} {nxt : Nat → Nat} {A : ALG X} {ok : Bool} {dE dN dO : Nat → PR X} {p : Nat} (h : ¬ S p = -12) : pnot S nxt A ok dE dN dO p = pbind (psum S nxt A ok dE dO p) (fun x p1 => if S p1 = -19 ∨ S p1 = -20 then pbind (psum S nxt A ok dE dO (nxt p1)) (fun y p2 => .inr (A.2.2 (S p1) x y, p2)) else .inr (x, p1)) := by
  unfold pnot
  rw [if_neg h]
theorem sg_end {f : Nat → Int32} {fr n p : Nat} (h : n ≤ p + 0) : sg (Bt f fr n) p = -22 := by
  unfold sg
  rw [Bt_out (show n ≤ p by omega), if_pos (by decide)]
theorem nx_lt {B : Nat → Int32} {p : Nat} (h1 : ¬ sg B p = -22) (h2 : ¬ sg B p = -23) : p < nx B p := by
  refine Nat.lt_of_lt_of_le ?_ (adv_ge isBl B 200 (en B p))
  unfold sg at h1 h2
  unfold en
  split at h1
  · exact absurd rfl h1
  · next h0 =>
    rw [if_neg h0] at h2 ⊢
    split at h1
    · next g1 =>
      rw [if_pos g1]
      unfold eoL
      rw [show (200 : Nat) = 199 + 1 from rfl, adv_step g1]
      exact Nat.lt_of_lt_of_le (Nat.lt_succ_self p) (adv_ge isLt B 199 (p + 1))
    · next g1 =>
      rw [if_neg g1] at h2 ⊢
      split at h1
      · next g2 =>
        rw [if_pos g2]
        unfold eoD
        rw [show (200 : Nat) = 199 + 1 from rfl, adv_step g2]
        exact Nat.lt_of_lt_of_le (Nat.lt_succ_self p) (adv_ge isDg B 199 (p + 1))
      · next g2 =>
        rw [if_neg g2] at h2 ⊢
        rw [if_neg h2]
        exact Nat.lt_succ_self p
/-- a good end lies behind the beginning -/
def prog {X : Type} (f : Nat → PR X) : Prop := ∀ (p : Nat) (x : X) (p' : Nat), f p = .inr (x, p') → p < p'
theorem pbind_inr {X Y : Type} {r : PR X} {f : X → Nat → PR Y} {y : Y} {p : Nat} (h : pbind r f = .inr (y, p)) : ∃ x p', r = .inr (x, p') ∧ f x p' = .inr (y, p) := by
  rcases r with q | ⟨x, p'⟩
  · cases h
  · exact ⟨x, p', rfl, h⟩
section PROG
variable {X : Type} {S : Nat → Int32} {nxt : Nat → Nat}
theorem prog_one (hn : ∀ {p : Nat}, ¬ S p = -22 → ¬ S p = -23 → p < nxt p) {A : ALG X} {ok : Bool} {dE dO : Nat → PR X} (hE : prog dE) (hO : prog dO) : prog (pone S nxt A ok dE dO) := by
  intro p x p' h
  have adv : ∀ c : Int32, ¬ c = -22 → ¬ c = -23 → S p = c → p < nxt p := fun c h1 h2 h3 => hn (by rw [h3]; exact h1) (by rw [h3]; exact h2)
  unfold pone at h
  split at h
  · next hv =>
    cases h
    refine hn (fun z => ?_) (fun z => ?_) <;> rw [z] at hv <;> exact absurd hv (by decide)
  · split at h
    · next h17 =>
      have := adv _ (by decide) (by decide) h17
      cases ok with
      | false => cases h
      | true =>
        obtain ⟨y, p1, g1, g2⟩ := pbind_inr h
        cases g2
        have := hO _ _ _ g1
        omega
    · split at h
      · next h13 =>
        have := adv _ (by decide) (by decide) h13
        cases ok with
        | false => cases h
        | true =>
          obtain ⟨y, p1, g1, g2⟩ := pbind_inr h
          have h3 := hE _ _ _ g1
          split at g2
          · next h14 =>
            cases g2
            have := hn (p := p1) (by rw [h14]; decide) (by rw [h14]; decide)
            omega
          · cases g2
      · cases h
theorem prog_ch (hn : ∀ {p : Nat}, ¬ S p = -22 → ¬ S p = -23 → p < nxt p) {bn : Int32 → X → X → X} {jn : Int32 → Bool} {lk : Nat → PR X} (hj : ∀ s, jn s = true → ¬ s = -22 ∧ ¬ s = -23) (hl : prog lk) : ∀ (f : Nat) (x : X) (p : Nat) (y : X) (p' : Nat), pch S nxt bn jn lk f x p = .inr (y, p') → p ≤ p'
  | 0, x, p, y, p', h => by cases h; exact Nat.le_refl _
  | f + 1, x, p, y, p', h => by
    unfold pch at h
    cases hb : jn (S p) with
    | false => rw [hb] at h; cases h; exact Nat.le_refl _
    | true =>
      rw [hb] at h
      obtain ⟨z, p1, g1, g2⟩ := pbind_inr h
      have h1 := hn (hj _ hb).1 (hj _ hb).2
      have h2 := hl _ _ _ g1
      have h3 := prog_ch hn hj hl f _ _ _ _ g2
      omega
theorem prog_c0 (hn : ∀ {p : Nat}, ¬ S p = -22 → ¬ S p = -23 → p < nxt p) {bn : Int32 → X → X → X} {jn : Int32 → Bool} {lk : Nat → PR X} (hj : ∀ s, jn s = true → ¬ s = -22 ∧ ¬ s = -23) (hl : prog lk) : prog (pc0 S nxt bn jn lk) := by
  intro p x p' h
  obtain ⟨z, p1, g1, g2⟩ := pbind_inr h
  have h2 := hl _ _ _ g1
  have h3 := prog_ch hn hj hl _ _ _ _ _ g2
  omega
theorem jT_ok : ∀ s, jTerm s = true → ¬ s = -22 ∧ ¬ s = -23 := fun s h => by simp only [jTerm, decide_eq_true_eq] at h; subst h; decide
theorem jS_ok : ∀ s, jSum s = true → ¬ s = -22 ∧ ¬ s = -23 := fun s h => by simp only [jSum, decide_eq_true_eq] at h; rcases h with h | h <;> subst h <;> decide
theorem jB_ok : ∀ s, jBoth s = true → ¬ s = -22 ∧ ¬ s = -23 := fun s h => by simp only [jBoth, decide_eq_true_eq] at h; subst h; decide
theorem jE_ok : ∀ s, jEith s = true → ¬ s = -22 ∧ ¬ s = -23 := fun s h => by simp only [jEith, decide_eq_true_eq] at h; subst h; decide
theorem prog_not' (hn : ∀ {p : Nat}, ¬ S p = -22 → ¬ S p = -23 → p < nxt p) {A : ALG X} {ok : Bool} {dE dN dO : Nat → PR X} (hE : prog dE) (hN : prog dN) (hO : prog dO) : prog (pnot S nxt A ok dE dN dO) := by
  intro p x p' h
  have hs : prog (psum S nxt A ok dE dO) := prog_c0 hn jS_ok (prog_c0 hn jT_ok (prog_one hn hE hO))
  unfold pnot at h
  split at h
  · next h12 =>
    have := hn (p := p) (by rw [h12]; decide) (by rw [h12]; decide)
    cases ok with
    | false => cases h
    | true =>
      obtain ⟨y, p1, g1, g2⟩ := pbind_inr h
      cases g2
      have := hN _ _ _ g1
      omega
  · obtain ⟨y, p1, g1, g2⟩ := pbind_inr h
    have h1 := hs _ _ _ g1
    split at g2
    · next hc =>
      have h2 : p1 < nxt p1 := hn (fun z => by rw [z] at hc; exact absurd hc (by decide)) (fun z => by rw [z] at hc; exact absurd hc (by decide))
      obtain ⟨y2, p2, g3, g4⟩ := pbind_inr g2
      cases g4
      have h3 := hs _ _ _ g3
      omega
    · cases g2
      exact h1
theorem prog_inl : prog (X := X) Sum.inl := fun _ _ _ h => by cases h
theorem prog_lvl (hn : ∀ {p : Nat}, ¬ S p = -22 → ¬ S p = -23 → p < nxt p) (A : ALG X) : ∀ (r k : Nat), prog (lvl S nxt A r k)
  | 0, 0 => fun p x p' h => prog_c0 hn jE_ok (prog_c0 hn jB_ok (prog_not' hn prog_inl prog_inl prog_inl)) p x p' h
  | 0, 1 => fun p x p' h => prog_not' hn prog_inl prog_inl prog_inl p x p' h
  | 0, k + 2 => fun p x p' h => prog_one hn prog_inl prog_inl p x p' h
  | r + 1, 0 => fun p x p' h => prog_c0 hn jE_ok (prog_c0 hn jB_ok (prog_not' hn (prog_lvl hn A r 0) (prog_lvl hn A r 1) (prog_lvl hn A r 2))) p x p' h
  | r + 1, 1 => fun p x p' h => prog_not' hn (prog_lvl hn A r 0) (prog_lvl hn A r 1) (prog_lvl hn A r 2) p x p' h
  | r + 1, k + 2 => fun p x p' h => prog_one hn (prog_lvl hn A r 0) (prog_lvl hn A r 2) p x p' h
end PROG

