/-! ===== the code of a text comes to what the grammar says ===== -/
section HOM
variable {X Y : Type}
/-- two readings go alike -/
def PE (E : X → Y → Prop) : PR X → PR Y → Prop
  | .inl q, .inl q' => q = q'
  | .inr (x, p), .inr (y, p') => E x y ∧ p = p'
  | _, _ => False
theorem PE.inl {E : X → Y → Prop} (p : Nat) : PE E (.inl p) (.inl p) := rfl
theorem PE.bind {X' Y' : Type} {E : X → Y → Prop} {E' : X' → Y' → Prop} {r : PR X} {s : PR Y} {f : X → Nat → PR X'} {g : Y → Nat → PR Y'} (h : PE E r s) (hf : ∀ x y p, E x y → PE E' (f x p) (g y p)) : PE E' (pbind r f) (pbind s g) := by
  rcases r with q | ⟨x, p⟩ <;> rcases s with q' | ⟨y, p'⟩
  · exact h
  · exact h.elim
  · exact h.elim
  · obtain ⟨h1, rfl⟩ := h
    exact hf x y p h1
def bins (s : Int32) : Prop := s = -18 ∨ s = -16 ∨ s = -17 ∨ s = -11 ∨ s = -10 ∨ s = -19 ∨ s = -20
def HmA (E : X → Y → Prop) (A : ALG X) (C : ALG Y) : Prop := (∀ s, -6 ≤ s → E (A.1 s) (C.1 s)) ∧ (∀ s x y, s = -12 ∨ s = -21 → E x y → E (A.2.1 s x) (C.2.1 s y)) ∧ ∀ s x x' y y', bins s → E x y → E x' y' → E (A.2.2 s x x') (C.2.2 s y y')
variable {E : X → Y → Prop} {S : Nat → Int32} {nxt : Nat → Nat} {A : ALG X} {C : ALG Y}
theorem PE.ch (hA : HmA E A C) {jn : Int32 → Bool} (hj : ∀ s, jn s = true → bins s) {lk : Nat → PR X} {lk' : Nat → PR Y} (hl : ∀ p, PE E (lk p) (lk' p)) : ∀ (f : Nat) (x : X) (y : Y) (p : Nat), E x y → PE E (pch S nxt A.2.2 jn lk f x p) (pch S nxt C.2.2 jn lk' f y p)
  | 0, x, y, p, h => ⟨h, rfl⟩
  | f + 1, x, y, p, h => by
    unfold pch
    cases hjn : jn (S p) with
    | false => exact ⟨h, rfl⟩
    | true => exact PE.bind (hl _) (fun x' y' p' h' => PE.ch hA hj hl f _ _ p' (hA.2.2 _ _ _ _ _ (hj _ hjn) h h'))
theorem PE.c0 (hA : HmA E A C) {jn : Int32 → Bool} (hj : ∀ s, jn s = true → bins s) {lk : Nat → PR X} {lk' : Nat → PR Y} (hl : ∀ p, PE E (lk p) (lk' p)) (p : Nat) : PE E (pc0 S nxt A.2.2 jn lk p) (pc0 S nxt C.2.2 jn lk' p) :=
  PE.bind (hl p) (fun x y p' h => PE.ch hA hj hl 200 x y p' h)
theorem bT : ∀ s, jTerm s = true → bins s := fun s h => by simp only [jTerm, decide_eq_true_eq] at h; exact .inl h
theorem bS : ∀ s, jSum s = true → bins s := fun s h => by
  simp only [jSum, decide_eq_true_eq] at h
  rcases h with h | h
  · exact .inr (.inl h)
  · exact .inr (.inr (.inl h))
theorem bB : ∀ s, jBoth s = true → bins s := fun s h => by simp only [jBoth, decide_eq_true_eq] at h; exact .inr (.inr (.inr (.inl h)))
theorem bE : ∀ s, jEith s = true → bins s := fun s h => by simp only [jEith, decide_eq_true_eq] at h; exact .inr (.inr (.inr (.inr (.inl h))))
theorem PE.one (hA : HmA E A C) {ok : Bool} {dE dO : Nat → PR X} {dE' dO' : Nat → PR Y} (hE : ∀ p, PE E (dE p) (dE' p)) (hO : ∀ p, PE E (dO p) (dO' p)) (p : Nat) : PE E (pone S nxt A ok dE dO p) (pone S nxt C ok dE' dO' p) := by
  by_cases h1 : -6 ≤ S p
  · rw [pone_val h1, pone_val h1]; exact ⟨hA.1 _ h1, rfl⟩
  · by_cases h2 : S p = -17
    · rw [pone_neg h2, pone_neg h2]
      cases ok with
      | false => exact rfl
      | true => exact PE.bind (hO _) (fun x y p' h => ⟨hA.2.1 _ _ _ (.inr rfl) h, rfl⟩)
    · by_cases h3 : S p = -13
      · rw [pone_par h3, pone_par h3]
        cases ok with
        | false => exact rfl
        | true =>
          refine PE.bind (hE _) (fun x y p' h => ?_)
          by_cases h4 : S p' = -14
          · rw [if_pos h4, if_pos h4]; exact ⟨h, rfl⟩
          · rw [if_neg h4, if_neg h4]; exact rfl
      · rw [pone_bad h1 h2 h3, pone_bad h1 h2 h3]; exact rfl
theorem PE.sum (hA : HmA E A C) {ok : Bool} {dE dO : Nat → PR X} {dE' dO' : Nat → PR Y} (hE : ∀ p, PE E (dE p) (dE' p)) (hO : ∀ p, PE E (dO p) (dO' p)) (p : Nat) : PE E (psum S nxt A ok dE dO p) (psum S nxt C ok dE' dO' p) :=
  PE.c0 hA bS (fun p => PE.c0 hA bT (fun p => PE.one hA hE hO p) p) p
theorem PE.not (hA : HmA E A C) {ok : Bool} {dE dN dO : Nat → PR X} {dE' dN' dO' : Nat → PR Y} (hE : ∀ p, PE E (dE p) (dE' p)) (hN : ∀ p, PE E (dN p) (dN' p)) (hO : ∀ p, PE E (dO p) (dO' p)) (p : Nat) : PE E (pnot S nxt A ok dE dN dO p) (pnot S nxt C ok dE' dN' dO' p) := by
  by_cases h : S p = -12
  · rw [pnot_not h, pnot_not h]
    cases ok with
    | false => exact rfl
    | true => exact PE.bind (hN _) (fun x y p' h => ⟨hA.2.1 _ _ _ (.inl rfl) h, rfl⟩)
  · rw [pnot_sum h, pnot_sum h]
    refine PE.bind (PE.sum hA hE hO p) (fun x y p1 h1 => ?_)
    by_cases h2 : S p1 = -19 ∨ S p1 = -20
    · rw [if_pos h2, if_pos h2]
      exact PE.bind (PE.sum hA hE hO _) (fun x' y' p2 h3 => ⟨hA.2.2 _ _ _ _ _ (.inr (.inr (.inr (.inr (.inr h2))))) h1 h3, rfl⟩)
    · rw [if_neg h2, if_neg h2]; exact ⟨h1, rfl⟩
theorem PE.eith (hA : HmA E A C) {ok : Bool} {dE dN dO : Nat → PR X} {dE' dN' dO' : Nat → PR Y} (hE : ∀ p, PE E (dE p) (dE' p)) (hN : ∀ p, PE E (dN p) (dN' p)) (hO : ∀ p, PE E (dO p) (dO' p)) (p : Nat) : PE E (peith S nxt A ok dE dN dO p) (peith S nxt C ok dE' dN' dO' p) :=
  PE.c0 hA bE (fun p => PE.c0 hA bB (fun p => PE.not hA hE hN hO p) p) p
theorem PE.lvl (hA : HmA E A C) : ∀ (r k p : Nat), PE E (lvl S nxt A r k p) (lvl S nxt C r k p)
  | 0, 0, p => PE.eith hA PE.inl PE.inl PE.inl p
  | 0, 1, p => PE.not hA PE.inl PE.inl PE.inl p
  | 0, k + 2, p => PE.one hA PE.inl PE.inl p
  | r + 1, 0, p => PE.eith hA (PE.lvl hA r 0) (PE.lvl hA r 1) (PE.lvl hA r 2) p
  | r + 1, 1, p => PE.not hA (PE.lvl hA r 0) (PE.lvl hA r 1) (PE.lvl hA r 2) p
  | r + 1, k + 2, p => PE.one hA (PE.lvl hA r 0) (PE.lvl hA r 2) p
theorem PE.part (hA : HmA E A C) (key : Int32) (p : Nat) : PE E (rPart S nxt A key p) (rPart S nxt C key p) := by
  unfold rPart rPt
  by_cases h : S p = key
  · rw [if_pos h, if_pos h]
    refine PE.bind (PE.lvl hA 5 0 _) (fun x y p1 h1 => ?_)
    by_cases h2 : S p1 = -15
    · rw [if_pos h2, if_pos h2]; exact ⟨h1, rfl⟩
    · rw [if_neg h2, if_neg h2]; exact rfl
  · rw [if_neg h, if_neg h]; exact rfl
/-- texts -/
def TE (E : X → Y → Prop) : Sum Nat (X × X × X) → Sum Nat (Y × Y × Y) → Prop
  | .inl q, .inl q' => q = q'
  | .inr (x, y, z), .inr (x', y', z') => E x x' ∧ E y y' ∧ E z z'
  | _, _ => False
theorem TE.text (hA : HmA E A C) (p : Nat) : TE E (rText S nxt A p) (rText S nxt C p) := by
  have h1 := PE.part (S := S) (nxt := nxt) hA (-7) p
  unfold rText
  generalize rPart S nxt A (-7) p = r at h1 ⊢
  generalize rPart S nxt C (-7) p = r' at h1 ⊢
  rcases r with q | ⟨x, p1⟩ <;> rcases r' with q' | ⟨x', p1'⟩
  · exact h1
  · exact h1.elim
  · exact h1.elim
  obtain ⟨hx, rfl⟩ := h1
  have h2 := PE.part (S := S) (nxt := nxt) hA (-8) p1
  dsimp only
  generalize rPart S nxt A (-8) p1 = r at h2 ⊢
  generalize rPart S nxt C (-8) p1 = r' at h2 ⊢
  rcases r with q | ⟨y, p2⟩ <;> rcases r' with q' | ⟨y', p2'⟩
  · exact h2
  · exact h2.elim
  · exact h2.elim
  obtain ⟨hy, rfl⟩ := h2
  have h3 := PE.part (S := S) (nxt := nxt) hA (-9) p2
  dsimp only
  generalize rPart S nxt A (-9) p2 = r at h3 ⊢
  generalize rPart S nxt C (-9) p2 = r' at h3 ⊢
  rcases r with q | ⟨z, p3⟩ <;> rcases r' with q' | ⟨z', p3'⟩
  · exact h3
  · exact h3.elim
  · exact h3.elim
  obtain ⟨hz, rfl⟩ := h3
  dsimp only
  by_cases h4 : S p3 = -22
  · rw [if_pos h4, if_pos h4]; exact ⟨hx, hy, hz⟩
  · rw [if_neg h4, if_neg h4]; exact rfl
end HOM
theorem it_app {α : Type} (f : Nat → α → α) (a : Nat) (x : α) : ∀ b, it f (a + b) x = it (fun k p => f (a + k) p) b (it f a x)
  | 0 => rfl
  | b + 1 => by
    show f (a + b) (it f (a + b) x) = f (a + b) (it (fun k p => f (a + k) p) b (it f a x))
    rw [it_app f a x b]
/-- a code comes to v, whatever lies on the stack below -/
def Ev (e : Nat → Int32) (x : List Int32) (v : Int32) : Prop := 0 < x.length ∧ ∀ (t A : Nat) (sk cd : Nat → Int32), t + x.length ≤ 160 → (∀ i, i < x.length → cd (A + i) = x.getD i 0) → ∃ sk' : Nat → Int32, it (fun k p => rkV e (cd (A + k)) p) x.length (nI t, sk) = (nI (t + 1), sk') ∧ sk' t = v ∧ ∀ j, j < t → sk' j = sk j
theorem Ev.one (e : Nat → Int32) {s : Int32} (hs : -6 ≤ s) : Ev e [s] (vNm e s) := by
  refine ⟨Nat.zero_lt_succ _, fun t A sk cd ht hc => ⟨upd sk t (vNm e s), ?_, pk_us, fun j hj => pk_un (by omega)⟩⟩
  have h0 := hc 0 (Nat.zero_lt_succ _)
  have ht : t + 1 ≤ 160 := ht
  show rkV e (cd (A + 0)) (nI t, sk) = _
  rw [h0]
  show rkV e s (nI t, sk) = _
  unfold rkV
  rw [if_pos hs, rowPut_in (by decide) sk (by omega)]
  rw [show nI t + 1 = nI (t + 1) from nI_add t 1]
theorem getD_l {x y : List Int32} {i : Nat} (h : i < x.length) : (x ++ y).getD i 0 = x.getD i 0 := by simp [List.getD, List.getElem?_append_left h]
theorem getD_r (x y : List Int32) (i : Nat) : (x ++ y).getD (x.length + i) 0 = y.getD i 0 := by
  have h : x.length ≤ x.length + i := by omega
  simp [List.getD, List.getElem?_append_right h]
theorem Ev.un {e : Nat → Int32} {x : List Int32} {v u : Int32} (hu : u = -12 ∨ u = -21) (h : Ev e x v) : Ev e (x ++ [u]) (vUn u v) := by
  obtain ⟨h0, h⟩ := h
  refine ⟨by rw [List.length_append]; omega, fun t A sk cd ht hc => ?_⟩
  rw [List.length_append] at ht hc
  have ht : t + (x.length + 1) ≤ 160 := ht
  obtain ⟨sk1, e1, e2, e3⟩ := h t A sk cd (by omega) (fun i hi => by rw [hc i (by omega), getD_l hi])
  have hcu : cd (A + x.length) = u := by
    rw [hc x.length (Nat.lt_succ_self _)]
    exact getD_r x [u] 0
  refine ⟨upd sk1 t (vUn u v), ?_, pk_us, fun j hj => by rw [pk_un (by omega)]; exact e3 j hj⟩
  rw [List.length_append]
  show rkV e (cd (A + x.length)) (it (fun k p => rkV e (cd (A + k)) p) x.length (nI t, sk)) = _
  rw [e1, hcu]
  have hn : ¬ -6 ≤ u := by rcases hu with rfl | rfl <;> decide
  unfold rkV
  rw [if_neg hn]
  dsimp only
  rw [show nI (t + 1) - 1 = nI t from nI_m1 (by omega), rowPut_in (by decide) sk1 (by omega), rowAt_in (by decide) sk1 (by omega), e2]
  by_cases h12 : u = -12
  · rw [if_pos h12]
  · rw [if_neg h12, if_pos (hu.resolve_left h12)]
theorem Ev.bin {e : Nat → Int32} {x y : List Int32} {v w c : Int32} (hc0 : bins c) (hx : Ev e x v) (hy : Ev e y w) : Ev e (x ++ y ++ [c]) (vBn c v w) := by
  obtain ⟨x0, hx⟩ := hx
  obtain ⟨y0, hy⟩ := hy
  have hl : (x ++ y ++ [c]).length = x.length + y.length + 1 := by rw [List.length_append, List.length_append]; rfl
  refine ⟨by omega, fun t A sk cd ht hc => ?_⟩
  rw [hl] at ht hc
  obtain ⟨sk1, e1, e2, e3⟩ := hx t A sk cd (by omega) (fun i hi => by rw [hc i (by omega), List.append_assoc, getD_l hi])
  obtain ⟨sk2, f1, f2, f3⟩ := hy (t + 1) (A + x.length) sk1 cd (by omega) (fun i hi => by
    rw [Nat.add_assoc, hc (x.length + i) (by omega), List.append_assoc, getD_r, getD_l hi])
  have hcu : cd (A + (x.length + y.length)) = c := by
    rw [hc (x.length + y.length) (by omega)]
    have := getD_r (x ++ y) [c] 0
    rw [List.length_append, Nat.add_zero] at this
    exact this
  refine ⟨upd sk2 t (vBn c v w), ?_, pk_us, fun j hj => by rw [pk_un (by omega), f3 j (by omega)]; exact e3 j hj⟩
  rw [hl]
  show rkV e (cd (A + (x.length + y.length))) (it (fun k p => rkV e (cd (A + k)) p) (x.length + y.length) (nI t, sk)) = _
  rw [it_app, e1]
  have ef : (fun k p => rkV e (cd (A + (x.length + k))) p) = fun k p => rkV e (cd (A + x.length + k)) p := by
    funext k p
    rw [Nat.add_assoc]
  rw [ef, f1, hcu]
  have hn : ¬ -6 ≤ c ∧ ¬ c = -12 ∧ ¬ c = -21 := by rcases hc0 with rfl | rfl | rfl | rfl | rfl | rfl | rfl <;> decide
  have n1 : nI (t + 1 + 1) - 1 = nI (t + 1) := nI_m1 (by omega)
  have n2 : nI (t + 1 + 1) - 2 = nI t := by
    rw [show (2 : Int32) = nI 2 from rfl, nI_sub (by omega)]
    congr 1
  unfold rkV
  rw [if_neg hn.1, if_neg hn.2.1, if_neg hn.2.2]
  dsimp only
  rw [n1, n2, rowPut_in (by decide) sk2 (by omega), rowAt_in (by decide) sk2 (show t < 160 by omega), rowAt_in (by decide) sk2 (show t + 1 < 160 by omega), f2, f3 t (by omega), e2]
theorem hm_Ev (e : Nat → Int32) : HmA (Ev e) cA (vA e) := ⟨fun _ h => Ev.one e h, fun _ _ _ h hx => Ev.un h hx, fun _ _ _ _ _ h hx hy => Ev.bin h hx hy⟩
