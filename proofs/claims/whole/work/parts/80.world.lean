/-! ===== the main class's world (laid by wip/tools/m_world.py) ===== -/
def Wk : Nat → Option Nat := fun i => if i < 6 then some (26 + 2 * i) else none
def Wsh : Nat → Option Nat := fun i => if i < 4 then some (38 + 2 * i) else none
def Wt (tc : Nat) : Nat → Option Nat := fun i => if i < tc then some (46 + 3 * i) else none
/-- the object: g its numbers (age, witnesses, texts, bytes, rule; the image's), a its rows (life 1, tape 5, the image's 20 .. 23), q the witnesses' numbers, u the sheets', v their items; scratch: z, b, c (by what was learnt), y (what is said); the rule's place; the texts -/
def hX (g : Nat → Int32) (a q u v : Nat → Nat → Int32) (z : Nat → Int32) (b c y : Nat → Nat → Int32) (t tc : Nat) (TX : PH) : PH :=
  pO 7 [.ref 1, .ref 2, .ref 3, .ref 4, .ref 5, .ref 6, .ref 7, .ref 12, .ref 14, .ref 19, .ref 24, .ref 25, .int (g 0), .int (g 1), .int (g 2), .int (g 3), .int (g 4), .ref (46 + 3 * t)] ::
  pI 6 (a 1) ::
  pI 6 (b 2) ::
  pQ 4 6 Wk ::
  pQ 3 6 (Wt tc) ::
  pI 160 (a 5) ::
  pQ 2 4 Wsh ::
  pO 3 [.ref 8, .ref 9, .ref 10, .ref 11, .int (z 0), .int (z 1)] ::
  pI 161 (b 8) ::
  pI 161 (b 9) ::
  pI 160 (b 10) ::
  pI 3 (b 11) ::
  pO 2 [.ref 13, .int (z 2), .int (z 3), .int (z 4), .int (z 5), .int (z 6), .int (z 7)] ::
  pI 160 (b 13) ::
  pO 1 [.ref 15, .ref 16, .ref 17, .ref 18, .int (z 8)] ::
  pI 96 (b 15) ::
  pI 28 (b 16) ::
  pI 28 (b 17) ::
  pI 28 (b 18) ::
  pO 0 [.int (g 5), .int (g 6), .int (g 7), .int (g 8), .ref 20, .ref 21, .ref 22, .ref 23] ::
  pI 6 (a 20) ::
  pI 6 (a 21) ::
  pI 6 (a 22) ::
  pI 6 (a 23) ::
  pI 96 (b 24) ::
  pI 6 (b 25) ::
  pO 6 [.ref 27, .int (q 0 1), .int (q 0 2), .int (q 0 3), .int (q 0 4), .int (c 0 5), .int (c 0 6), .int (c 0 7), .int (c 0 8), .int (c 0 9)] ::
  pI 96 (y 0) ::
  pO 6 [.ref 29, .int (q 1 1), .int (q 1 2), .int (q 1 3), .int (q 1 4), .int (c 1 5), .int (c 1 6), .int (c 1 7), .int (c 1 8), .int (c 1 9)] ::
  pI 96 (y 1) ::
  pO 6 [.ref 31, .int (q 2 1), .int (q 2 2), .int (q 2 3), .int (q 2 4), .int (c 2 5), .int (c 2 6), .int (c 2 7), .int (c 2 8), .int (c 2 9)] ::
  pI 96 (y 2) ::
  pO 6 [.ref 33, .int (q 3 1), .int (q 3 2), .int (q 3 3), .int (q 3 4), .int (c 3 5), .int (c 3 6), .int (c 3 7), .int (c 3 8), .int (c 3 9)] ::
  pI 96 (y 3) ::
  pO 6 [.ref 35, .int (q 4 1), .int (q 4 2), .int (q 4 3), .int (q 4 4), .int (c 4 5), .int (c 4 6), .int (c 4 7), .int (c 4 8), .int (c 4 9)] ::
  pI 96 (y 4) ::
  pO 6 [.ref 37, .int (q 5 1), .int (q 5 2), .int (q 5 3), .int (q 5 4), .int (c 5 5), .int (c 5 6), .int (c 5 7), .int (c 5 8), .int (c 5 9)] ::
  pI 96 (y 5) ::
  pO 4 [.ref 39, .int (u 0 1), .int (u 0 2)] ::
  pI 40 (v 0) ::
  pO 4 [.ref 41, .int (u 1 1), .int (u 1 2)] ::
  pI 40 (v 1) ::
  pO 4 [.ref 43, .int (u 2 1), .int (u 2 2)] ::
  pI 40 (v 2) ::
  pO 4 [.ref 45, .int (u 3 1), .int (u 3 2)] ::
  pI 40 (v 3) :: TX
theorem hX_len {g z : Nat → Int32} {a q u v b c y : Nat → Nat → Int32} {t tc : Nat} {TX : PH} : (hX g a q u v z b c y t tc TX).length = TX.length + 46 := rfl
theorem hXl {g z : Nat → Int32} {a q u v b c y : Nat → Nat → Int32} {t tc : Nat} {TX : PH} (h : TX.length ≤ 18) : (hX g a q u v z b c y t tc TX).length ≤ 999999 := by rw [hX_len]; omega
theorem hX_lq {g z : Nat → Int32} {a q u v b c y : Nat → Nat → Int32} {t tc : Nat} {TX : PH} {g' z' : Nat → Int32} {a' q' u' v' b' c' y' : Nat → Nat → Int32} {t' tc' : Nat} : (hX g a q u v z b c y t tc TX).length = (hX g' a' q' u' v' z' b' c' y' t' tc' TX).length := rfl
theorem six6 {x : Nat} (h : x < 6) : x = 0 ∨ x = 1 ∨ x = 2 ∨ x = 3 ∨ x = 4 ∨ x = 5 := by omega
theorem four4 {x : Nat} (h : x < 4) : x = 0 ∨ x = 1 ∨ x = 2 ∨ x = 3 := by omega
/-- four numbers of a witness, five by which it learnt, two of a sheet -/
def qw (k n s e : Int32) : Nat → Int32 := fun i => if i = 1 then k else if i = 2 then n else if i = 3 then s else e
def cw (r a k n s : Int32) : Nat → Int32 := fun i => if i = 5 then r else if i = 6 then a else if i = 7 then k else if i = 8 then n else s
def uw (s n : Int32) : Nat → Int32 := fun i => if i = 1 then s else n
theorem hX_w {g z : Nat → Int32} {a q u v b c y : Nat → Nat → Int32} {t tc : Nat} {TX : PH} {x : Nat} (hx : x < 6) : lg (hX g a q u v z b c y t tc TX) (26 + 2 * x) = some (pO 6 [.ref (27 + 2 * x), .int (q x 1), .int (q x 2), .int (q x 3), .int (q x 4), .int (c x 5), .int (c x 6), .int (c x 7), .int (c x 8), .int (c x 9)]) := by
  rcases six6 hx with rfl | rfl | rfl | rfl | rfl | rfl <;> rfl
theorem hX_y {g z : Nat → Int32} {a q u v b c y : Nat → Nat → Int32} {t tc : Nat} {TX : PH} {x : Nat} (hx : x < 6) : lg (hX g a q u v z b c y t tc TX) (27 + 2 * x) = some (pI 96 (y x)) := by
  rcases six6 hx with rfl | rfl | rfl | rfl | rfl | rfl <;> rfl
theorem hX_s {g z : Nat → Int32} {a q u v b c y : Nat → Nat → Int32} {t tc : Nat} {TX : PH} {j : Nat} (hj : j < 4) : lg (hX g a q u v z b c y t tc TX) (38 + 2 * j) = some (pO 4 [.ref (39 + 2 * j), .int (u j 1), .int (u j 2)]) := by
  rcases four4 hj with rfl | rfl | rfl | rfl <;> rfl
theorem hX_i {g z : Nat → Int32} {a q u v b c y : Nat → Nat → Int32} {t tc : Nat} {TX : PH} {j : Nat} (hj : j < 4) : lg (hX g a q u v z b c y t tc TX) (39 + 2 * j) = some (pI 40 (v j)) := by
  rcases four4 hj with rfl | rfl | rfl | rfl <;> rfl
theorem hX_q2 {g z : Nat → Int32} {a q u v b c y : Nat → Nat → Int32} {t tc : Nat} {TX : PH} {x : Nat} (hx : x < 6) (w : Int32) : (hX g a q u v z b c y t tc TX).set (26 + 2 * x) (pO 6 [.ref (27 + 2 * x), .int (q x 1), .int w, .int (q x 3), .int (q x 4), .int (c x 5), .int (c x 6), .int (c x 7), .int (c x 8), .int (c x 9)]) = hX g a (up2 q x (upd (q x) 2 w)) u v z b c y t tc TX := by
  rcases six6 hx with rfl | rfl | rfl | rfl | rfl | rfl <;> rfl
theorem hX_q3 {g z : Nat → Int32} {a q u v b c y : Nat → Nat → Int32} {t tc : Nat} {TX : PH} {x : Nat} (hx : x < 6) (w : Int32) : (hX g a q u v z b c y t tc TX).set (26 + 2 * x) (pO 6 [.ref (27 + 2 * x), .int (q x 1), .int (q x 2), .int w, .int (q x 4), .int (c x 5), .int (c x 6), .int (c x 7), .int (c x 8), .int (c x 9)]) = hX g a (up2 q x (upd (q x) 3 w)) u v z b c y t tc TX := by
  rcases six6 hx with rfl | rfl | rfl | rfl | rfl | rfl <;> rfl
theorem hX_q4 {g z : Nat → Int32} {a q u v b c y : Nat → Nat → Int32} {t tc : Nat} {TX : PH} {x : Nat} (hx : x < 6) (w : Int32) : (hX g a q u v z b c y t tc TX).set (26 + 2 * x) (pO 6 [.ref (27 + 2 * x), .int (q x 1), .int (q x 2), .int (q x 3), .int w, .int (c x 5), .int (c x 6), .int (c x 7), .int (c x 8), .int (c x 9)]) = hX g a (up2 q x (upd (q x) 4 w)) u v z b c y t tc TX := by
  rcases six6 hx with rfl | rfl | rfl | rfl | rfl | rfl <;> rfl
theorem hX_qb {g z : Nat → Int32} {a q u v b c y : Nat → Nat → Int32} {t tc : Nat} {TX : PH} {x : Nat} (hx : x < 6) (k1 k2 k3 k4 : Int32) : (hX g a q u v z b c y t tc TX).set (26 + 2 * x) (pO 6 [.ref (27 + 2 * x), .int k1, .int k2, .int k3, .int k4, .int (c x 5), .int (c x 6), .int (c x 7), .int (c x 8), .int (c x 9)]) = hX g a (up2 q x (qw k1 k2 k3 k4)) u v z b c y t tc TX := by
  rcases six6 hx with rfl | rfl | rfl | rfl | rfl | rfl <;> rfl
theorem hX_c {g z : Nat → Int32} {a q u v b c y : Nat → Nat → Int32} {t tc : Nat} {TX : PH} {x : Nat} (hx : x < 6) (k1 k2 k3 k4 k5 : Int32) : (hX g a q u v z b c y t tc TX).set (26 + 2 * x) (pO 6 [.ref (27 + 2 * x), .int (q x 1), .int (q x 2), .int (q x 3), .int (q x 4), .int k1, .int k2, .int k3, .int k4, .int k5]) = hX g a q u v z b (up2 c x (cw k1 k2 k3 k4 k5)) y t tc TX := by
  rcases six6 hx with rfl | rfl | rfl | rfl | rfl | rfl <;> rfl
theorem hX_sy {g z : Nat → Int32} {a q u v b c y : Nat → Nat → Int32} {t tc : Nat} {TX : PH} {x : Nat} (hx : x < 6) (f : Nat → Int32) : (hX g a q u v z b c y t tc TX).set (27 + 2 * x) (pI 96 f) = hX g a q u v z b c (up2 y x f) t tc TX := by
  rcases six6 hx with rfl | rfl | rfl | rfl | rfl | rfl <;> rfl
theorem hX_su {g z : Nat → Int32} {a q u v b c y : Nat → Nat → Int32} {t tc : Nat} {TX : PH} {j : Nat} (hj : j < 4) (s n : Int32) : (hX g a q u v z b c y t tc TX).set (38 + 2 * j) (pO 4 [.ref (39 + 2 * j), .int s, .int n]) = hX g a q (up2 u j (uw s n)) v z b c y t tc TX := by
  rcases four4 hj with rfl | rfl | rfl | rfl <;> rfl
theorem hX_si {g z : Nat → Int32} {a q u v b c y : Nat → Nat → Int32} {t tc : Nat} {TX : PH} {j : Nat} (hj : j < 4) (f : Nat → Int32) : (hX g a q u v z b c y t tc TX).set (39 + 2 * j) (pI 40 f) = hX g a q u (up2 v j f) z b c y t tc TX := by
  rcases four4 hj with rfl | rfl | rfl | rfl <;> rfl
theorem set_same {h : PH} {k : Nat} {e : va_E} (hh : lg h k = some e) : h.set k e = h := by
  rw [lg_eq] at hh
  refine List.ext_getElem? (fun i => ?_)
  by_cases hi : k = i
  · subst hi; rw [List.getElem?_set_self (List.getElem?_eq_some_iff.mp hh).1, hh]
  · rw [List.getElem?_set_ne hi]
/-- text i is there, with such a code -/
def TxI (TX : PH) (i : Nat) (cd en : Nat → Int32) (L : Nat) : Prop := lg TX (3 * i) = some (pO 5 [.ref (47 + 3 * i), .ref (48 + 3 * i)]) ∧ lg TX (3 * i + 1) = some (pI L cd) ∧ lg TX (3 * i + 2) = some (pI 3 en)
theorem lg_46 {g z : Nat → Int32} {a q u v b c y : Nat → Nat → Int32} {t tc : Nat} {TX : PH} (n : Nat) : lg (hX g a q u v z b c y t tc TX) (46 + n) = lg TX n := by
  rw [Nat.add_comm]; rfl
theorem hX_t0 {g z : Nat → Int32} {a q u v b c y : Nat → Nat → Int32} {t tc : Nat} {TX : PH} {i L : Nat} {cd en : Nat → Int32} (h : TxI TX i cd en L) : lg (hX g a q u v z b c y t tc TX) (46 + 3 * i) = some (pO 5 [.ref (47 + 3 * i), .ref (48 + 3 * i)]) := (lg_46 _).trans h.1
theorem hX_t1 {g z : Nat → Int32} {a q u v b c y : Nat → Nat → Int32} {t tc : Nat} {TX : PH} {i L : Nat} {cd en : Nat → Int32} (h : TxI TX i cd en L) : lg (hX g a q u v z b c y t tc TX) (47 + 3 * i) = some (pI L cd) := by
  rw [show 47 + 3 * i = 46 + (3 * i + 1) by omega]; exact (lg_46 _).trans h.2.1
theorem hX_t2 {g z : Nat → Int32} {a q u v b c y : Nat → Nat → Int32} {t tc : Nat} {TX : PH} {i L : Nat} {cd en : Nat → Int32} (h : TxI TX i cd en L) : lg (hX g a q u v z b c y t tc TX) (48 + 3 * i) = some (pI 3 en) := by
  rw [show 48 + 3 * i = 46 + (3 * i + 2) by omega]; exact (lg_46 _).trans h.2.2
def setL : PH → List Nat → PH → PH
  | h, [], _ => h
  | h, _ :: _, [] => h
  | h, i :: is, c :: cs => setL (h.set i c) is cs
theorem putL_f : ∀ {io : List Nat} {cs : PH} {h : PH}, cs.length = io.length → putL h io cs = setL h io cs
  | [], [], h, _ => List.append_nil h
  | [], _ :: _, _, e => by cases e
  | _ :: _, [], _, e => by cases e
  | i :: is, c :: cs, h, e => putL_f (io := is) (cs := cs) (h := h.set i c) (Nat.succ.inj e)
theorem setL_c (h : PH) (i : Nat) (is : List Nat) (e : va_E) (cs : PH) : setL h (i :: is) (e :: cs) = setL (h.set i e) is cs := rfl
theorem putL_c (h : PH) (i : Nat) (is : List Nat) (e : va_E) (cs : PH) : putL h (i :: is) (e :: cs) = putL (h.set i e) is cs := rfl
theorem putL_n (h : PH) : putL h [] [] = h := List.append_nil h
theorem nd_t (i : Nat) : va_nd [46 + 3 * i, 47 + 3 * i, 48 + 3 * i, 12, 13] = true := by
  simp [va_nd]
  omega
theorem nd_w {x : Nat} (hx : x < 6) : va_nd [26 + 2 * x, 27 + 2 * x] = true := by rcases six6 hx with rfl | rfl | rfl | rfl | rfl | rfl <;> rfl
theorem nd_s {x : Nat} (hx : x < 4) : va_nd [38 + 2 * x, 39 + 2 * x] = true := by rcases four4 hx with rfl | rfl | rfl | rfl <;> rfl
theorem nd_l {x : Nat} (hx : x < 6) : va_nd [14, 15, 16, 17, 18, 27 + 2 * x] = true := by rcases six6 hx with rfl | rfl | rfl | rfl | rfl | rfl <;> rfl
theorem nd_l1 {x : Nat} (hx : x < 6) : va_nd [14, 15, 16, 17, 18, 27 + 2 * x, 1] = true := by rcases six6 hx with rfl | rfl | rfl | rfl | rfl | rfl <;> rfl
theorem nd_l2 {x : Nat} (hx : x < 6) : va_nd [14, 15, 16, 17, 18, 27 + 2 * x, 2] = true := by rcases six6 hx with rfl | rfl | rfl | rfl | rfl | rfl <;> rfl
theorem nd_n {x : Nat} (hx : x < 6) (i : Nat) : va_nd [26 + 2 * x, 27 + 2 * x, 46 + 3 * i, 47 + 3 * i, 48 + 3 * i, 12, 13] = true := by
  simp [va_nd]
  omega
theorem nb_rf (n : Nat) : Nat.beq n n = true := by
  induction n with
  | zero => rfl
  | succ n ih => exact ih
/-- reading and writing a field at a place that is not a literal -/
theorem P0.gt {d mc ms : Nat} {M : MI} {Q : Option Value → PH → Prop} {pc a ci k : Nat} {ls : List (Option Value)} {st : List Value} {h : PH} {fs : List Value} {w : Value} (hG : Good M) (hl : lk M.2.2.2.2 pc = some (oGet ci k)) (h1 : lg h a = some (.inr (ci, fs))) (h2 : lg fs k = some w) (hk : P0 d mc ms M (pc + 3, ls, w :: st, h) Q) : P0 d mc ms M (pc, ls, .ref a :: st, h) Q :=
  P0.run (dc := 0) (ds := 0) (ob := []) hG hl (by
    show (match lg h a with
      | some (.inr (c, fs)) => bif Nat.beq c ci then (match lg fs k with
        | some v => some ([], 0, 0, (pc + 3, ls, v :: st, h))
        | none => none) else none
      | _ => none) = _
    rw [h1]
    show (bif Nat.beq ci ci then (match lg fs k with
        | some v => some ([], 0, 0, (pc + 3, ls, v :: st, h))
        | none => none) else none) = _
    rw [h2, nb_rf ci]
    rfl) trivial hk
theorem P0.pt {d mc ms : Nat} {M : MI} {Q : Option Value → PH → Prop} {pc a ci k : Nat} {ls : List (Option Value)} {st : List Value} {h h' : PH} {fs : List Value} {w : Int32} (hG : Good M) (hl : lk M.2.2.2.2 pc = some (oPutI ci k)) (h1 : lg h a = some (.inr (ci, fs))) (h2 : Nat.blt k fs.length = true) (h3 : h.set a (.inr (ci, fs.set k (.int w))) = h') (hk : P0 d mc ms M (pc + 3, ls, st, h') Q) : P0 d mc ms M (pc, ls, .int w :: .ref a :: st, h) Q :=
  P0.run (dc := 0) (ds := 0) (ob := []) hG hl (by
    show (match lg h a with
      | some (.inr (c, fs)) => bif Nat.beq c ci && Nat.blt k fs.length then some ([], 0, 0, (pc + 3, ls, st, h.set a (.inr (c, fs.set k (.int w))))) else none
      | _ => none) = _
    rw [h1]
    show (bif Nat.beq ci ci && Nat.blt k fs.length then some ([], 0, 0, (pc + 3, ls, st, h.set a (.inr (ci, fs.set k (.int w))))) else none) = _
    rw [h2, h3, nb_rf ci]
    rfl) trivial hk
theorem wk_at {x : Nat} (hx : x < 6) : va_rf (Wk x) = .ref (26 + 2 * x) := by unfold Wk; rw [if_pos hx]; rfl
theorem wsh_at {x : Nat} (hx : x < 4) : va_rf (Wsh x) = .ref (38 + 2 * x) := by unfold Wsh; rw [if_pos hx]; rfl
theorem wt_at {x tc : Nat} (hx : x < tc) : va_rf (Wt tc x) = .ref (46 + 3 * x) := by unfold Wt; rw [if_pos hx]; rfl
