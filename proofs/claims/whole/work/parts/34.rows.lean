/-! ===== laid by program (wip/tools) ===== -/
/-- the table, over an old row -/
def tabV (a : Nat → Nat → Int32) (t : Nat) (age : Int32) (m : Nat) (r7 : Nat → Int32) : Nat → Int32 := it (tab1 a t age) m r7
/-- what each step tells by two doings, over an old row -/
def vasV (a : Nat → Nat → Int32) (t : Nat) (age which : Int32) (r9 : Nat → Int32) : Nat → Int32 := it (val1 a t age which) 6 r9
theorem up2_s {b : Nat → Nat → Int32} {k : Nat} {f : Nat → Int32} : up2 b k f k = f := if_pos rfl
theorem up2_n {b : Nat → Nat → Int32} {k j : Nat} {f : Nat → Int32} (h : j ≠ k) : up2 b k f j = b j := if_neg h
section ROWS
variable {g z : Nat → Int32} {w : Int64} {a b : Nat → Nat → Int32}
theorem e_gathers {t m : Nat} (hr : g 4 = nI t) (hS : Std1 a t) (hm : g 11 = nI m) (hm6 : m ≤ 6) (hW : ∀ i, i < m → WOK a (nI i)) {r7 r8 : Nat → Int32} (h7 : b 7 = r7) (h8 : b 8 = r8) : P0 45 0 0 mX11_gathers (0, ent 7 [.ref 0], [], hC g z w a b) (fun r h' => ∃ z' w' T R, T = tabV a t (g 7) m r7 ∧ R = gatV a t (g 7) m r7 r8 ∧ r = none ∧ h' = hC g z' w' a (up2 (up2 b 7 T) 8 R)) := by
  subst h7 h8
  exact P0.mono (e_X11_gathers hr hS hm hm6 hW) (Nat.le_refl _) (Nat.le_refl _) (Nat.le_refl _) (fun r h' ⟨z', w', h1, h2⟩ => ⟨z', w', _, _, rfl, rfl, h1, h2⟩)
theorem e_tables {t m : Nat} (hr : g 4 = nI t) (hS : Std1 a t) (hm : g 11 = nI m) (hm6 : m ≤ 6) (hW : ∀ i, i < m → WOK a (nI i)) {r7 : Nat → Int32} (h7 : b 7 = r7) : P0 44 0 0 mX11_tables (0, ent 5 [.ref 0], [], hC g z w a b) (fun r h' => ∃ z' w' T, T = tabV a t (g 7) m r7 ∧ r = none ∧ h' = hC g z' w' a (up2 b 7 T)) := by
  subst h7
  exact P0.mono (e_X11_tables hr hS hm hm6 hW) (Nat.le_refl _) (Nat.le_refl _) (Nat.le_refl _) (fun r h' ⟨z', w', h1, h2⟩ => ⟨z', w', _, rfl, h1, h2⟩)
theorem e_values {t : Nat} (hr : g 4 = nI t) (hS : Std1 a t) (which : Int32) {r9 : Nat → Int32} (h9 : b 9 = r9) : P0 43 0 0 mX11_tellsValues (0, ent 5 [.ref 0, .int which], [], hC g z w a b) (fun r h' => ∃ z' w' V, V = vasV a t (g 7) which r9 ∧ r = none ∧ h' = hC g z' w' a (up2 b 9 V)) := by
  subst h9
  exact P0.mono (e_X11_tellsValues hr hS which) (Nat.le_refl _) (Nat.le_refl _) (Nat.le_refl _) (fun r h' ⟨z', w', h1, h2⟩ => ⟨z', w', _, rfl, h1, h2⟩)
theorem e_livesBy {R : Nat → Int32} (h : b 8 = R) (set : Int32) : P0 0 0 0 mX11_livesBy (0, ent 4 [.ref 0, .int set], [], hC g z w a b) (fun r h' => r = some (.int (livV R set)) ∧ h' = hC g z w a b) := by
  subst h; exact e_X11_livesBy set
theorem e_canBeBy {R : Nat → Int32} (h : b 8 = R) (s set : Int32) : P0 1 0 0 mX11_canBeBy (0, ent 5 [.ref 0, .int s, .int set], [], hC g z w a b) (fun r h' => r = some (.int (canV R s set)) ∧ h' = hC g z w a b) := by
  subst h; exact e_X11_canBeBy s set
theorem e_sure {m : Nat} (hm : g 11 = nI m) (hm6 : m ≤ 6) {R : Nat → Int32} (h : b 8 = R) : P0 2 0 0 mX11_sure (0, ent 3 [.ref 0], [], hC g z w a b) (fun r h' => r = some (.int (sureV R (sentV (a 6) m))) ∧ h' = hC g z w a b) := by
  subst h; exact e_X11_sure hm hm6
theorem e_valueOf {V : Nat → Int32} (h : b 9 = V) (l : Int32) : P0 2 0 0 mX11_valueOf (0, ent 4 [.ref 0, .int l], [], hC g z w a b) (fun r h' => r = some (.int (valV V l)) ∧ h' = hC g z w a b) := by
  subst h; exact e_X11_valueOf l
theorem e_saysBy {T : Nat → Int32} (h : b 7 = T) (x s l : Int32) (hb : vp_in (spotV x s (lastV l s) (doV l s)) 576) : P0 2 0 0 mX11_saysBy (0, ent 4 [.ref 0, .int x, .int s, .int l], [], hC g z w a b) (fun r h' => r = some (.int (byV T x s l)) ∧ h' = hC g z w a b) := by
  subst h; exact e_X11_saysBy x s l hb
end ROWS
