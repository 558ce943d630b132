/-! ===== THE PURE MACHINE: a heap is a list of cells, a reference is a place in it (from sB on: constants outside of it); an instruction is a function ===== -/
def sB : Nat := 1000000
/-- the words that a method's start can hand on: good ones, and three kinds more -/
def extraW : Cond → Bool
  | .methodLinkNest _ _ _ _ => true
  | .castable _ _ => true
  | .arrayOver (.object _) => true
  | _ => false
def lw_U : List Cond := lw_tbl.filter (fun w => goodWord w || extraW w)
theorem inU {w : Cond} (h : w ∈ lw_tbl) (hg : (goodWord w || extraW w) = true) : w ∈ lw_U := List.mem_filter.mpr ⟨h, hg⟩
theorem inUs {ws : List Cond} (h : ∀ w ∈ ws, w ∈ lw_tbl) (hg : ws.all (fun w => goodWord w || extraW w) = true) : ∀ w ∈ ws, w ∈ lw_U := fun w hw => inU (h w hw) (List.all_eq_true.mp hg w hw)
abbrev PH : Type := List va_E
abbrev CF : Type := Nat × List (Option Value) × List Value × PH
abbrev POp : Type := CF → Option (List Prop × Nat × Nat × CF)
abbrev MI : Type := MethodName × ByteArray × Nat × Option FieldType × List (Nat × POp)
def AllP : List Prop → Prop
  | [] => True
  | p :: t => p ∧ AllP t
theorem AllP.app {a b : List Prop} (h : AllP (a ++ b)) : AllP a ∧ AllP b := by
  induction a with
  | nil => exact ⟨trivial, h⟩
  | cons p t ih => exact ⟨⟨h.1, (ih h.2).1⟩, (ih h.2).2⟩
def lg {α : Type} : List α → Nat → Option α
  | [], _ => none
  | a :: _, 0 => some a
  | _ :: t, n + 1 => lg t n
theorem lg_eq {α : Type} (l : List α) (n : Nat) : lg l n = l[n]? := by
  induction l generalizing n with
  | nil => rfl
  | cons a t ih => cases n with
    | zero => rfl
    | succ n => simp [lg, ih]
def lk : List (Nat × POp) → Nat → Option POp
  | [], _ => none
  | q :: t, n => bif Nat.beq q.1 n then some q.2 else lk t n
theorem lk_mem {t : List (Nat × POp)} {n : Nat} {o : POp} (h : lk t n = some o) : (n, o) ∈ t := by
  induction t with
  | nil => cases h
  | cons q t ih =>
    unfold lk at h
    cases hb : Nat.beq q.1 n with
    | true =>
      rw [hb] at h
      have e := Nat.eq_of_beq_eq_true hb
      cases h
      rw [← e]
      exact List.mem_cons_self
    | false => rw [hb] at h; exact List.mem_cons_of_mem _ (ih h)
/-- how many words the stack takes -/
def sumc : List Value → Nat
  | [] => 0
  | v :: t => v.category + sumc t
theorem sumc_eq (l : List Value) : (l.map fun v => v.category).sum = sumc l := by
  induction l with
  | nil => rfl
  | cons v t ih => simp [sumc, ih]
/-- references point into the heap, or to constants -/
def wfV (n : Nat) : Value → Prop
  | .ref k => k < n ∨ sB ≤ k
  | _ => True
def wfE (n : Nat) : va_E → Prop
  | .inl (_, _, .inr (.inr (.inr (.inr f)))) => ∀ j k, f j = some k → k < n ∨ sB ≤ k
  | .inl _ => True
  | .inr (_, fs) => ∀ v ∈ fs, wfV n v
def wfP (ls : List (Option Value)) (st : List Value) (h : PH) : Prop := h.length < sB ∧ (∀ o ∈ ls, ∀ v, o = some v → wfV h.length v) ∧ (∀ v ∈ st, wfV h.length v) ∧ ∀ e ∈ h, wfE h.length e
def noL : Option (Option Value) → Bool
  | some (some (.long _)) => false
  | some (some (.double _)) => false
  | _ => true
def okSt (ls : List (Option Value)) (i : Nat) : Bool := Nat.blt i ls.length && (match i with | 0 => true | j + 1 => noL (lg ls j))
-- instructions
def oPush (v : Value) (n : Nat) : POp := fun ⟨pc, ls, st, h⟩ => some ([], 0, 0, (pc + n, ls, v :: st, h))
def oLdI (i n : Nat) : POp := fun ⟨pc, ls, st, h⟩ => match lg ls i with
  | some (some (.int x)) => some ([], 0, 0, (pc + n, ls, .int x :: st, h))
  | _ => none
def oLdL (i n : Nat) : POp := fun ⟨pc, ls, st, h⟩ => match lg ls i with
  | some (some (.long x)) => some ([], 0, 0, (pc + n, ls, .long x :: st, h))
  | _ => none
def oLdA (i n : Nat) : POp := fun ⟨pc, ls, st, h⟩ => match lg ls i with
  | some (some (.ref x)) => some ([], 0, 0, (pc + n, ls, .ref x :: st, h))
  | some (some .null) => some ([], 0, 0, (pc + n, ls, .null :: st, h))
  | _ => none
def oStI (i n : Nat) : POp := fun ⟨pc, ls, st, h⟩ => match st with
  | .int x :: st => bif okSt ls i then some ([], 0, 0, (pc + n, ls.set i (some (.int x)), st, h)) else none
  | _ => none
def oStA (i n : Nat) : POp := fun ⟨pc, ls, st, h⟩ => match st with
  | .ref x :: st => bif okSt ls i then some ([], 0, 0, (pc + n, ls.set i (some (.ref x)), st, h)) else none
  | .null :: st => bif okSt ls i then some ([], 0, 0, (pc + n, ls.set i (some .null), st, h)) else none
  | _ => none
def oStL (i n : Nat) : POp := fun ⟨pc, ls, st, h⟩ => match st with
  | .long x :: st => bif okSt ls i && Nat.blt (i + 1) ls.length then some ([], 0, 0, (pc + n, (ls.set i (some (.long x))).set (i + 1) none, st, h)) else none
  | _ => none
def oInc (i : Nat) (k : Int32) : POp := fun ⟨pc, ls, st, h⟩ => match lg ls i with
  | some (some (.int x)) => bif okSt ls i then some ([], 0, 0, (pc + 3, ls.set i (some (.int (x + k))), st, h)) else none
  | _ => none
def oBin (f : Int32 → Int32 → Int32) : POp := fun ⟨pc, ls, st, h⟩ => match st with
  | .int y :: .int x :: st => some ([], 0, 0, (pc + 1, ls, .int (f x y) :: st, h))
  | _ => none
def oDiv (f : Int32 → Int32 → Int32) : POp := fun ⟨pc, ls, st, h⟩ => match st with
  | .int y :: .int x :: st => some ([¬ y = 0], 0, 0, (pc + 1, ls, .int (f x y) :: st, h))
  | _ => none
def oUn (f : Int32 → Int32) : POp := fun ⟨pc, ls, st, h⟩ => match st with
  | .int x :: st => some ([], 0, 0, (pc + 1, ls, .int (f x) :: st, h))
  | _ => none
def oBinL (f : Int64 → Int64 → Int64) : POp := fun ⟨pc, ls, st, h⟩ => match st with
  | .long y :: .long x :: st => some ([], 0, 0, (pc + 1, ls, .long (f x y) :: st, h))
  | _ => none
def oDivL (f : Int64 → Int64 → Int64) : POp := fun ⟨pc, ls, st, h⟩ => match st with
  | .long y :: .long x :: st => some ([¬ y = 0], 0, 0, (pc + 1, ls, .long (f x y) :: st, h))
  | _ => none
def oI2l : POp := fun ⟨pc, ls, st, h⟩ => match st with
  | .int x :: st => some ([], 0, 0, (pc + 1, ls, .long x.toInt64 :: st, h))
  | _ => none
def oL2i : POp := fun ⟨pc, ls, st, h⟩ => match st with
  | .long x :: st => some ([], 0, 0, (pc + 1, ls, .int x.toInt32 :: st, h))
  | _ => none
def oLcmp : POp := fun ⟨pc, ls, st, h⟩ => match st with
  | .long y :: .long x :: st => some ([], 0, 0, (pc + 1, ls, .int (lg_cmp x y) :: st, h))
  | _ => none
def oDup : POp := fun ⟨pc, ls, st, h⟩ => match st with
  | .int x :: st => some ([], 0, 0, (pc + 1, ls, .int x :: .int x :: st, h))
  | .ref x :: st => some ([], 0, 0, (pc + 1, ls, .ref x :: .ref x :: st, h))
  | _ => none
def oPop : POp := fun ⟨pc, ls, st, h⟩ => match st with
  | .int _ :: st => some ([], 0, 0, (pc + 1, ls, st, h))
  | .ref _ :: st => some ([], 0, 0, (pc + 1, ls, st, h))
  | _ => none
def oGoto (t : Nat) : POp := fun ⟨_, ls, st, h⟩ => some ([], 0, 0, (t, ls, st, h))
/-- a branch on two ints: 0 = 1 ≠ 2 < 3 ≥ 4 > 5 ≤ -/
def brI (k : Nat) (x y : Int32) (t f : Nat) : Nat := match k with
  | 0 => if x = y then t else f
  | 1 => if x = y then f else t
  | 2 => if x < y then t else f
  | 3 => if y ≤ x then t else f
  | 4 => if y < x then t else f
  | _ => if x ≤ y then t else f
def oIf (k t : Nat) : POp := fun ⟨pc, ls, st, h⟩ => match st with
  | .int x :: st => some ([], 0, 0, (brI k x 0 t (pc + 3), ls, st, h))
  | _ => none
def oCmp (k t : Nat) : POp := fun ⟨pc, ls, st, h⟩ => match st with
  | .int y :: .int x :: st => some ([], 0, 0, (brI k x y t (pc + 3), ls, st, h))
  | _ => none
def oNull (t : Nat) : POp := fun ⟨pc, ls, st, h⟩ => match st with
  | .null :: st => some ([], 0, 0, (t, ls, st, h))
  | .ref _ :: st => some ([], 0, 0, (pc + 3, ls, st, h))
  | _ => none
def oNonnull (t : Nat) : POp := fun ⟨pc, ls, st, h⟩ => match st with
  | .null :: st => some ([], 0, 0, (pc + 3, ls, st, h))
  | .ref _ :: st => some ([], 0, 0, (t, ls, st, h))
  | _ => none
/-- a switch: the places for the keys, else d -/
def swT (x : Int32) (d : Nat) : List (Int32 × Nat) → Nat
  | [] => d
  | q :: t => if x = q.1 then q.2 else swT x d t
def oSw (ts : List (Int32 × Nat)) (d : Nat) : POp := fun ⟨_, ls, st, h⟩ => match st with
  | .int x :: st => some ([], 0, 0, (swT x d ts, ls, st, h))
  | _ => none
def oGet (ci k : Nat) : POp := fun ⟨pc, ls, st, h⟩ => match st with
  | .ref a :: st => match lg h a with
    | some (.inr (c, fs)) => bif Nat.beq c ci then (match lg fs k with
      | some v => some ([], 0, 0, (pc + 3, ls, v :: st, h))
      | none => none) else none
    | _ => none
  | _ => none
def oPutI (ci k : Nat) : POp := fun ⟨pc, ls, st, h⟩ => match st with
  | .int x :: .ref a :: st => match lg h a with
    | some (.inr (c, fs)) => bif Nat.beq c ci && Nat.blt k fs.length then some ([], 0, 0, (pc + 3, ls, st, h.set a (.inr (c, fs.set k (.int x))))) else none
    | _ => none
  | _ => none
def oPutZ (ci k : Nat) : POp := fun ⟨pc, ls, st, h⟩ => match st with
  | .int x :: .ref a :: st => match lg h a with
    | some (.inr (c, fs)) => bif Nat.beq c ci && Nat.blt k fs.length then some ([x = 0 ∨ x = 1], 0, 0, (pc + 3, ls, st, h.set a (.inr (c, fs.set k (.int x))))) else none
    | _ => none
  | _ => none
def oPutL (ci k : Nat) : POp := fun ⟨pc, ls, st, h⟩ => match st with
  | .long x :: .ref a :: st => match lg h a with
    | some (.inr (c, fs)) => bif Nat.beq c ci && Nat.blt k fs.length then some ([], 0, 0, (pc + 3, ls, st, h.set a (.inr (c, fs.set k (.long x))))) else none
    | _ => none
  | _ => none
def oPutA (ci k : Nat) : POp := fun ⟨pc, ls, st, h⟩ => match st with
  | .ref x :: .ref a :: st => match lg h a with
    | some (.inr (c, fs)) => bif Nat.beq c ci && Nat.blt k fs.length then some ([], 0, 0, (pc + 3, ls, st, h.set a (.inr (c, fs.set k (.ref x))))) else none
    | _ => none
  | .null :: .ref a :: st => match lg h a with
    | some (.inr (c, fs)) => bif Nat.beq c ci && Nat.blt k fs.length then some ([], 0, 0, (pc + 3, ls, st, h.set a (.inr (c, fs.set k .null)))) else none
    | _ => none
  | _ => none
/-- array kinds: 0 ints, 1 booleans, 2 sheets, 3 texts, 4 witnesses -/
def oIald : POp := fun ⟨pc, ls, st, h⟩ => match st with
  | .int i :: .ref a :: st => match lg h a with
    | some (.inl (k, n, .inl f)) => bif Nat.beq k 0 then some ([vp_in i n], 0, 0, (pc + 1, ls, .int (f i.toNatClampNeg) :: st, h)) else none
    | _ => none
  | _ => none
def oZald : POp := fun ⟨pc, ls, st, h⟩ => match st with
  | .int i :: .ref a :: st => match lg h a with
    | some (.inl (k, n, .inl f)) => bif Nat.beq k 1 then some ([vp_in i n], 0, 0, (pc + 1, ls, .int (f i.toNatClampNeg) :: st, h)) else none
    | _ => none
  | _ => none
def oIast : POp := fun ⟨pc, ls, st, h⟩ => match st with
  | .int x :: .int i :: .ref a :: st => match lg h a with
    | some (.inl (k, n, .inl f)) => bif Nat.beq k 0 then some ([vp_in i n], 0, 0, (pc + 1, ls, st, h.set a (.inl (k, n, .inl (upd f i.toNatClampNeg x))))) else none
    | _ => none
  | _ => none
def oZast : POp := fun ⟨pc, ls, st, h⟩ => match st with
  | .int x :: .int i :: .ref a :: st => match lg h a with
    | some (.inl (k, n, .inl f)) => bif Nat.beq k 1 then some ([vp_in i n, vp_nar .boolean x = x], 0, 0, (pc + 1, ls, st, h.set a (.inl (k, n, .inl (upd f i.toNatClampNeg x))))) else none
    | _ => none
  | _ => none
def oLen : POp := fun ⟨pc, ls, st, h⟩ => match st with
  | .ref a :: st => match lg h a with
    | some (.inl (k, n, _)) => bif Nat.blt k 5 then some ([], 0, 0, (pc + 1, ls, .int (Int32.ofNat n) :: st, h)) else none
    | _ => none
  | _ => none
def oQald : POp := fun ⟨pc, ls, st, h⟩ => match st with
  | .int i :: .ref a :: st => match lg h a with
    | some (.inl (k, n, .inr (.inr (.inr (.inr f))))) => bif Nat.ble 2 k && Nat.blt k 5 then some ([vp_in i n], 0, 0, (pc + 1, ls, va_rf (f i.toNatClampNeg) :: st, h)) else none
    | _ => none
  | _ => none
def oQast : POp := fun ⟨pc, ls, st, h⟩ => match st with
  | .ref x :: .int i :: .ref a :: st => match lg h a with
    | some (.inl (k, n, .inr (.inr (.inr (.inr f))))) => (match lg h x with
      | some (.inr (c, _)) => bif Nat.ble 2 k && (Nat.blt k 5 && Nat.beq c (k + 2)) then some ([vp_in i n], 0, 0, (pc + 1, ls, st, h.set a (.inl (k, n, .inr (.inr (.inr (.inr (va_up f i.toNatClampNeg (some x))))))))) else none
      | _ => none)
    | _ => none
  | _ => none
def oNew (ci N : Nat) (fs : List Value) : POp := fun ⟨pc, ls, st, h⟩ => some ([wfP ls st h], 1, N, (pc + 3, ls, .ref h.length :: st, h ++ [.inr (ci, fs)]))
def oNewI : POp := fun ⟨pc, ls, st, h⟩ => match st with
  | .int x :: st => some ([wfP ls st h, ¬ x < 0, x.toNatClampNeg ≤ 100000], 1, x.toNatClampNeg, (pc + 2, ls, .ref h.length :: st, h ++ [.inl (0, x.toNatClampNeg, .inl (fun _ => 0))]))
  | _ => none
def oNewZ : POp := fun ⟨pc, ls, st, h⟩ => match st with
  | .int x :: st => some ([wfP ls st h, ¬ x < 0, x.toNatClampNeg ≤ 100000], 1, x.toNatClampNeg, (pc + 2, ls, .ref h.length :: st, h ++ [.inl (1, x.toNatClampNeg, .inl (fun _ => 0))]))
  | _ => none
def oNewQ (k : Nat) : POp := fun ⟨pc, ls, st, h⟩ => match st with
  | .int x :: st => some ([wfP ls st h, ¬ x < 0, x.toNatClampNeg ≤ 100000], 1, x.toNatClampNeg, (pc + 3, ls, .ref h.length :: st, h ++ [.inl (k, x.toNatClampNeg, .inr (.inr (.inr (.inr (fun _ => none)))))]))
  | _ => none
def oMax : POp := fun ⟨pc, ls, st, h⟩ => match st with
  | .int y :: .int x :: st => bif Nat.ble (sumc st) 8 then some ([], 0, 0, (pc + 3, ls, .int (if x < y then y else x) :: st, h)) else none
  | _ => none
def oMin : POp := fun ⟨pc, ls, st, h⟩ => match st with
  | .int y :: .int x :: st => bif Nat.ble (sumc st) 8 then some ([], 0, 0, (pc + 3, ls, .int (if y < x then y else x) :: st, h)) else none
  | _ => none
def oCopy : POp := fun ⟨pc, ls, st, h⟩ => match st with
  | .int n :: .int dp :: .ref b :: .int sp :: .ref a :: st => match lg h a with
    | some (.inl (k, na, .inl f)) => (match lg h b with
      | some (.inl (j, nb, .inl g)) => bif Nat.beq k 0 && (Nat.beq j 0 && Nat.ble (sumc st) 8) then some ([¬ sp < 0, ¬ dp < 0, ¬ n < 0, sp.toNatClampNeg + n.toNatClampNeg ≤ na, dp.toNatClampNeg + n.toNatClampNeg ≤ nb], 0, 0, (pc + 3, ls, st, h.set b (.inl (j, nb, .inl (va_cpy f g sp.toNatClampNeg dp.toNatClampNeg n.toNatClampNeg))))) else none
      | _ => none)
    | _ => none
  | _ => none
def oClone : POp := fun ⟨pc, ls, st, h⟩ => match st with
  | .ref a :: st => match lg h a with
    | some (.inl (k, n, .inl f)) => bif Nat.beq k 0 && Nat.ble (sumc st) 8 then some ([wfP ls (.ref a :: st) h, n ≤ 100000], 1, n, (pc + 3, ls, .ref h.length :: st, h ++ [.inl (k, n, .inl f)])) else none
    | _ => none
  | _ => none
def oCastI : POp := fun ⟨pc, ls, st, h⟩ => match st with
  | .ref a :: st => match lg h a with
    | some (.inl (k, _)) => bif Nat.beq k 0 then some ([], 0, 0, (pc + 3, ls, .ref a :: st, h)) else none
    | _ => none
  | _ => none
/-- n instructions, one behind another -/
def runN : Nat → MI → CF → Option (List Prop × Nat × Nat × CF)
  | 0, _, cf => some ([], 0, 0, cf)
  | n + 1, M, cf => match lk M.2.2.2.2 cf.1 with
    | none => none
    | some op => match op cf with
      | none => none
      | some r => match runN n M r.2.2.2 with
        | none => none
        | some r2 => some (r.1 ++ r2.1, r.2.1 + r2.2.1, r.2.2.1 + r2.2.2.1, r2.2.2.2)
