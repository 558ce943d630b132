/-! ===== a text that was read: its parts come to what the grammar says ===== -/
theorem Ev.at {e : Nat → Int32} {x : List Int32} {v : Int32} (h : Ev e x v) {A : Nat} {cd sk : Nat → Int32} (hl : x.length ≤ 160) (hc : ∀ i, i < x.length → cd (A + i) = x.getD i 0) : (rkN e cd A sk x.length).2 0 = v := by
  obtain ⟨sk', h1, h2, _⟩ := h.2 0 A sk cd (by omega) hc
  have e0 : rkN e cd A sk x.length = it (fun k p => rkV e (cd (A + k)) p) x.length (nI 0, sk) := rfl
  rw [e0, h1]
  exact h2
/-- what a part of a text that is read comes to -/
def txV (B : Nat → Int32) : (Nat → Int32) → Int32 → Int32 := fun e k => rdV k (rText (sg B) (nx B) (vA e) (skp B 0))
theorem TX_of {B c e cd en : Nat → Int32} {x y w : List Int32} {L : Nat} (hX : rText (sg B) (nx B) cA (skp B 0) = .inr (x, y, w)) (hT : TR c e x y w) (hL : x.length + y.length + w.length ≤ L) (hL2 : L ≤ 160) (hcd : ∀ i, i < x.length + y.length + w.length → cd i = c i) (hen : ∀ i, i < 3 → en i = e i) : TXok cd en L (txV B) := by
  obtain ⟨t0, t1, t2, ⟨_, tc⟩, tl⟩ := hT
  have hl : (x ++ y ++ w).length = x.length + y.length + w.length := by rw [List.length_append, List.length_append]
  have gx : ∀ i, i < x.length → cd (0 + i) = x.getD i 0 := fun i hi => by
    have := tc i (by omega)
    rw [Nat.zero_add] at this ⊢
    rw [hcd i (by omega), this, List.append_assoc, getD_l hi]
  have gy : ∀ i, i < y.length → cd (x.length + i) = y.getD i 0 := fun i hi => by
    have := tc (x.length + i) (by omega)
    rw [Nat.zero_add] at this
    rw [hcd _ (by omega), this, List.append_assoc, getD_r, getD_l hi]
  have gw : ∀ i, i < w.length → cd (x.length + y.length + i) = w.getD i 0 := fun i hi => by
    have := tc (x.length + y.length + i) (by omega)
    rw [Nat.zero_add] at this
    rw [hcd _ (by omega), this]
    have g := getD_r (x ++ y) w i
    rw [List.length_append] at g
    exact g
  refine ⟨x.length, x.length + y.length, x.length + y.length + w.length, (hen 0 (by decide)).trans t0, (hen 1 (by decide)).trans t1, (hen 2 (by decide)).trans t2, by omega, by omega, hL, hL2, fun f sk => ?_⟩
  have h := TE.text (S := sg B) (nxt := nx B) (hm_Ev f) (skp B 0)
  unfold txV
  revert h
  rw [hX]
  generalize rText (sg B) (nx B) (vA f) (skp B 0) = r
  rcases r with q | ⟨a, b, d⟩
  · intro h; exact h.elim
  · rintro ⟨h1, h2, h3⟩
    refine ⟨?_, ?_, ?_⟩
    · rw [h1.at (by omega) gx]; rfl
    · rw [show x.length + y.length - x.length = y.length by omega, h2.at (by omega) gy]; rfl
    · rw [show x.length + y.length + w.length - (x.length + y.length) = w.length by omega, h3.at (by omega) gw]; rfl
/-- readable by the class is readable by the reference, whatever the names say -/
theorem TX_std {B : Nat → Int32} {x y w : List Int32} (hX : rText (sg B) (nx B) cA (skp B 0) = .inr (x, y, w)) (f : Nat → Int32) : ∃ v, rText (sg B) (nx B) (vA f) (skp B 0) = .inr v := by
  have h := TE.text (S := sg B) (nxt := nx B) (hm_Ev f) (skp B 0)
  rw [hX] at h
  revert h
  generalize rText (sg B) (nx B) (vA f) (skp B 0) = r
  rcases r with q | v
  · intro h; exact h.elim
  · intro _; exact ⟨v, rfl⟩
theorem TX_bad {B : Nat → Int32} {q : Nat} (hX : rText (sg B) (nx B) cA (skp B 0) = .inl q) (f : Nat → Int32) : rText (sg B) (nx B) (vA f) (skp B 0) = .inl q := by
  have h := TE.text (S := sg B) (nxt := nx B) (hm_Ev f) (skp B 0)
  rw [hX] at h
  revert h
  generalize rText (sg B) (nx B) (vA f) (skp B 0) = r
  rcases r with q' | v
  · intro h; exact congrArg Sum.inl (show q = q' from h).symm
  · intro h; exact h.elim
