/-! ===== the law's entry: what holds at the start ===== -/
theorem st_arr {args : Array Value} {s : State} {ty : FieldType} (h : (Cond.arrayClass ty).before args s = true) : ∃ cA : ClassId, ArrOfT s cA ty ∧ s.vm.findClass ("[" ++ ty.toString) = some cA := by
  obtain ⟨c, k, comp, h1, h2, h3⟩ := Cond.arrayClass_spec (args := args) (first := s) (o := none) (s := s) (idx := []) h
  exact ⟨c, fun n z => ⟨fun k9 h9 => (by simp [arrV] at h9), k, h2, comp, h3⟩, h1⟩
theorem st_obj {args : Array Value} {s : State} {C : String} (h : (Cond.arrayOver (.object C)).before args s = true) : ∃ cA : ClassId, ArrOfT s cA (.object C) ∧ va_RA s cA (.object C) := by
  obtain ⟨comp, c, k, h1, -, h3, h4, h5⟩ := Cond.arrayOver_spec (args := args) (first := s) (o := none) (s := s) (idx := []) h
  exact ⟨c, fun n z => ⟨fun k9 h9 => (by simp [arrV] at h9), k, h3, comp, h4⟩, k, comp, h3, h4, h1, h5⟩
set_option maxRecDepth 20000 in
theorem st_K {args : Array Value} {s : State} (hts : ∀ w ∈ lw_tbl, w.before args s = true) : ∃ (D : va_G) (cA : Nat → ClassId), va_K D vwCl (tysF cA) s := by
  have hU : ∀ w ∈ lw_U, w.before args s = true := fun w hw => hts w (List.mem_filter.mp hw).1
  obtain ⟨c0, j0, k0⟩ := u_known (C := RX0) (T := TX0) (N := 8) (n := 8) hU iX0 (hts _ (List.mem_of_getElem? (i := 234) (by decide +kernel)))
  obtain ⟨c1, j1, k1⟩ := u_known (C := RX2) (T := TX2) (N := 5) (n := 5) hU iX2 (hts _ (List.mem_of_getElem? (i := 212) (by decide +kernel)))
  obtain ⟨c2, j2, k2⟩ := u_known (C := RX3) (T := TX3) (N := 7) (n := 7) hU iX3 (hts _ (List.mem_of_getElem? (i := 180) (by decide +kernel)))
  obtain ⟨c3, j3, k3⟩ := u_known (C := RX4) (T := TX4) (N := 6) (n := 6) hU iX4 (hts _ (List.mem_of_getElem? (i := 154) (by decide +kernel)))
  obtain ⟨c4, j4, k4⟩ := u_known (C := RX6) (T := TX6) (N := 3) (n := 3) hU iX6 (hts _ (List.mem_of_getElem? (i := 312) (by decide +kernel)))
  obtain ⟨c5, j5, k5⟩ := u_known (C := RX8) (T := TX8) (N := 2) (n := 2) hU iX8 (hts _ (List.mem_of_getElem? (i := 477) (by decide +kernel)))
  obtain ⟨c6, j6, k6⟩ := u_known (C := RX9) (T := TX9) (N := 10) (n := 10) hU iX9 (hts _ (List.mem_of_getElem? (i := 268) (by decide +kernel)))
  obtain ⟨c7, j7, k7⟩ := u_known (C := RX10) (T := TX10) (N := 18) (n := 18) hU iX10 (hts _ (List.mem_of_getElem? (i := 140) (by decide +kernel)))
  obtain ⟨c8, j8, k8⟩ := u_known (C := RX11) (T := TX11) (N := 41) (n := 41) hU iX11 (hts _ (List.mem_of_getElem? (i := 1006) (by decide +kernel)))
  obtain ⟨a0, r0, s0⟩ := st_arr (ty := .int) (hts _ (List.mem_of_getElem? (i := 178) (by decide +kernel)))
  obtain ⟨a1, r1, s1⟩ := st_arr (ty := .boolean) (hts _ (List.mem_of_getElem? (i := 1138) (by decide +kernel)))
  obtain ⟨a2, r2, s2⟩ := st_obj (C := RX6) (hts _ (List.mem_of_getElem? (i := 152) (by decide +kernel)))
  obtain ⟨a3, r3, s3⟩ := st_obj (C := RX8) (hts _ (List.mem_of_getElem? (i := 150) (by decide +kernel)))
  obtain ⟨a4, r4, s4⟩ := st_obj (C := RX9) (hts _ (List.mem_of_getElem? (i := 148) (by decide +kernel)))
  refine ⟨(fun k => [c0, c1, c2, c3, c4, c5, c6, c7, c8].getD k c0, fun k => [j0, j1, j2, j3, j4, j5, j6, j7, j8].getD k j0), fun k => [a0, a1, a2, a3, a4].getD k a0, fun k q hq => ?_, fun k q hq => ?_⟩
  · match k, hq with
    | 0, hq => cases hq; exact k0
    | 1, hq => cases hq; exact k1
    | 2, hq => cases hq; exact k2
    | 3, hq => cases hq; exact k3
    | 4, hq => cases hq; exact k4
    | 5, hq => cases hq; exact k5
    | 6, hq => cases hq; exact k6
    | 7, hq => cases hq; exact k7
    | 8, hq => cases hq; exact k8
    | k + 9, hq => exact absurd (List.getElem?_eq_some_iff.mp hq).1 (show ¬ (k + 9 < 9) by omega)
  · match k, hq with
    | 0, hq => cases hq; exact ⟨r0, s0⟩
    | 1, hq => cases hq; exact ⟨r1, s1⟩
    | 2, hq => cases hq; exact ⟨r2, s2⟩
    | 3, hq => cases hq; exact ⟨r3, s3⟩
    | 4, hq => cases hq; exact ⟨r4, s4⟩
    | k + 5, hq => exact absurd (List.getElem?_eq_some_iff.mp hq).1 (show ¬ (k + 5 < 5) by omega)
/-- the strings as terms; where each stands in the start's flat list -/
def stM (i : Nat) : Term := match strK[i]? with
  | some q => .string q.1 q.2.1
  | none => .string "" 0
def stB (i : Nat) : Nat := [43, 93, 103, 113, 126, 138, 151, 164, 181, 198, 216, 232, 250].getD i 0
abbrev stV (i : Nat) : Term := .field (stM i) "java/lang/String" "value" "[B"
theorem st_f0 : ∀ i, i < 13 → (flatC narrow_1)[stB i]? = some (.exactly (stM i) "java/lang/String") := by decide +kernel
theorem st_f1 : ∀ i, i < 13 → (flatC narrow_1)[stB i + 1]? = some (.eq (.field (stM i) "java/lang/String" "coder" "B") (.int 0)) := by decide +kernel
theorem st_f2 : ∀ i, i < 13 → (flatC narrow_1)[stB i + 2]? = some (.arrayOf (stV i) .byte) := by decide +kernel
theorem st_f3 : ∀ i, i < 13 → (flatC narrow_1)[stB i + 3]? = some (.eq (.length (stV i)) (.int (Int32.ofNat (strN.getD i 0)))) := by decide +kernel
theorem st_f4 : ∀ i, i < 13 → ∀ j, j < strN.getD i 0 → (flatC narrow_1)[stB i + 4 + j]? = some (.eq (.elem (stV i) (.int (Int32.ofNat j))) (.int ((strB.getD i []).getD j 0))) := by decide +kernel
theorem st_f5 : ∀ i, i < 13 → ∀ j, j < i → (flatC narrow_1)[stB i + 4 + strN.getD i 0 + j]? = some (.not (.eq (stM j) (stM i))) := by decide +kernel
def stW (i : Nat) : Nat := [330, 408, 414, 415, 416, 417, 418, 419, 420, 421, 422, 423, 424].getD i 0
theorem st_w : ∀ i, i < 13 → ∃ q : String × Nat × String, strK[i]? = some q ∧ lw_tbl[stW i]? = some (.stringRef q.1 q.2.1 q.2.2) := by
  intro i hi
  have h : ∀ i, i < 13 → (strK[i]?).isSome = true ∧ lw_tbl[stW i]? = some (.stringRef (strK.getD i ("", 0, "")).1 (strK.getD i ("", 0, "")).2.1 (strK.getD i ("", 0, "")).2.2) := by decide +kernel
  obtain ⟨h1, h2⟩ := h i hi
  cases hq : strK[i]? with
  | none => rw [hq] at h1; cases h1
  | some q =>
    rw [List.getD_eq_getElem?_getD, hq] at h2
    exact ⟨q, rfl, h2⟩
def adS (f g : Nat → Nat) (t b : Nat) : Nat → Nat := fun q => if q < sB + 100 then f (q - sB) else if q < sB + 200 then g (q - (sB + 100)) else if q < sB + 300 then t else b
theorem st_cg {N : Nat} {len : List Nat} {byt : List (List Int32)} {f g f' g' : Nat → Nat} {A : Nat → Prop} {s : State} {H : Heap} (h : vk_S N len byt f g A s H) (e1 : ∀ i, i < N → f' i = f i) (e2 : ∀ i, i < N → g' i = g i) : vk_S N len byt f' g' A s H := by
  refine ⟨fun i hi => ?_, fun i j hi hj e => h.2 i j hi hj (by rw [← e1 i hi, ← e1 j hj]; exact e)⟩
  rw [e1 i hi, e2 i hi]
  exact h.1 i hi
theorem st_S {b : Nat} {args : Array Value} {s : State} (hts : ∀ w ∈ lw_tbl, w.before args s = true) (hn : narrow_1.before args s = true) : ∃ ad : Nat → Nat, Sx ad (fun q => s.heap.size ≤ q) s s.heap ∧ ad (sB + 400) = b := by
  have hg : ∀ {k : Nat} {w : Cond}, (flatC narrow_1)[k]? = some w → w.before args s = true := fun h => flat_of_before _ hn _ (List.mem_of_getElem? h)
  have hA : ∀ a : Nat, a < s.heap.size → ¬ (fun q => s.heap.size ≤ q) a := fun a h => Nat.not_le.mpr h
  obtain ⟨f, g, hS, hev⟩ := vk_Sof (tm := stM) (N := 13) (len := strN) (byt := strB) (A := fun q => s.heap.size ≤ q) (by decide +kernel) (fun i hi => hg (st_f0 i hi)) (fun i hi => hg (st_f1 i hi)) (fun i hi => hg (st_f2 i hi)) (fun i hi => hg (st_f3 i hi)) (fun i hi j hj => hg (st_f4 i hi j hj))
    (fun i j hi hj hij => by
      rcases Nat.lt_or_gt_of_ne hij with z | z
      · exact Or.inl (hg (st_f5 j hj i z))
      · exact Or.inr (hg (st_f5 i hi j z))) hA
  obtain ⟨t, ht, hT⟩ := va_Tof (tm := .static RX1 "UNDER" "[I") (ty := .int) (N := 6) (f := fun j => .int (undF j)) (args := args) (s := s) (A := fun q => s.heap.size ≤ q) (by decide) (hg (k := 8) (by decide +kernel)) (va_eqt (hg (k := 9) (by decide +kernel))) (fun j hj => va_eqt (hg (k := 10 + j) (by
    have h : ∀ j, j < 6 → (flatC narrow_1)[10 + j]? = some (.eq (.elem (.static RX1 "UNDER" "[I") (.int (Int32.ofNat j))) (.int (undF j))) := by decide +kernel
    exact h j hj))) hA
  have hb0 : sB = 1000000 := rfl
  have e1 : ∀ i, i < 13 → adS f g t b (sB + i) = f i := fun i hi => by
    unfold adS
    rw [if_pos (by omega), Nat.add_sub_cancel_left]
  have e2 : ∀ i, i < 13 → adS f g t b (sB + 100 + i) = g i := fun i hi => by
    unfold adS
    rw [if_neg (by omega), if_pos (by omega), Nat.add_sub_cancel_left]
  have e3 : adS f g t b (sB + 200) = t := by
    unfold adS
    rw [if_neg (by omega), if_neg (by omega), if_pos (by omega)]
  have e4 : adS f g t b (sB + 400) = b := by
    unfold adS
    rw [if_neg (by omega), if_neg (by omega), if_neg (by omega)]
  refine ⟨adS f g t b, ⟨st_cg hS e1 e2, fun i q hq => ?_, ?_, ?_, ?_, ?_⟩, e4⟩
  · have hi : i < 13 := (List.getElem?_eq_some_iff.mp hq).1
    obtain ⟨q2, h1, h2⟩ := st_w i hi
    obtain rfl := Option.some.inj (hq.symm.trans h1)
    rw [e1 i hi]
    refine vk_R.of (A := args) (hts _ (List.mem_of_getElem? h2)) ?_
    have h3 := hev i hi
    unfold stM at h3
    rw [hq] at h3
    exact h3
  · exact va_Zof (args := args) (hts _ (List.mem_of_getElem? (i := 340) (by decide +kernel))) (hts _ (List.mem_of_getElem? (i := 126) (by decide +kernel))) (va_eqi (hg (k := 2) (by decide +kernel))) hA
  · rw [e3]
    exact va_Zref (args := args) (hts _ (List.mem_of_getElem? (i := 1003) (by decide +kernel))) (hts _ (List.mem_of_getElem? (i := 137) (by decide +kernel))) ht hA
  · rw [e3]
    exact hT
  · exact va_Zqof (args := args) (hts _ (List.mem_of_getElem? (i := 356) (by decide +kernel))) (hts _ (List.mem_of_getElem? (i := 128) (by decide +kernel))) (hg (k := 3) (by decide +kernel)) hA
theorem st_N {args : Array Value} {s : State} (hU : ∀ w ∈ lw_U, w.before args s = true) : Nx s := by
  intro w hw hx
  have h0 := hU w hw
  cases w <;> try (cases hx; done)
  · exact va_Nw.of rfl h0
  · exact va_Nw.of rfl h0
  · next ty =>
    cases ty <;> try (cases hx; done)
    exact va_AO.of h0
/-- THE LAW, from its entry -/
theorem whole_start {p : Program} {e : Env} {s : State} {m : MethodId} {below : List Frame} {meth : Method} {c : Code} (l : Launch) (hflags : l.flags = flags0) {b L : Nat} {xs : Nat → Int32} (hL : L ≤ 3072) (C0 : lw_At p s m meth c b L xs) : W p l e room_1 s m #[Value.ref b] below meth c s.heap [] 0 0 (lw_Z below #[Value.ref b] s) (entryFrame m ([Value.ref b] : List Value).toArray 4) := by
  obtain ⟨hx, hb, hr, hml, hown, hts, hX, hbl, hlocks, hgv⟩ := id C0
  rw [Cond.before_and, Bool.and_eq_true] at hgv
  obtain ⟨D, cA, hK⟩ := st_K hts
  obtain ⟨ad, hSx, hadb⟩ := st_S (b := b) hts hgv.2
  have hU : ∀ w ∈ lw_U, w.before #[Value.ref b] s = true := fun w hw => hts w (List.mem_filter.mp hw).1
  have hw0 : wd ad cA [] = [] := rfl
  have hP : va_P D vwCl (wd ad cA []) s.heap := by
    rw [hw0]
    intro k q h
    simp at h
  have hD : va_D (fun q => s.heap.size ≤ q) (wd ad cA []) := by
    rw [hw0]
    exact ⟨fun i j p q h => by simp at h, fun k q h => by simp at h⟩
  have hl := lv_entry ([.ref b]) (n := 4) (Nat.le_of_ble_eq_true rfl)
  rw [lg_entry_eq]
  generalize (lg_sl ([.ref b]) ++ List.replicate (4 - (lg_sl ([.ref b])).length) Slot.unset).toArray = Ls at hl ⊢
  have hl : lv_has Ls 4 [(0, .ref b)] := hl
  have hLR : LR ad 4 Ls [some (.ref (sB + 400)), none, none, none] := by
    refine ⟨rfl, hl.1, hl.2.1, fun i v hv => ?_⟩
    match i, hv with
    | 0, hv =>
      cases hv
      show Ls[0]? = some (.val (.ref (ad (sB + 400))))
      rw [hadb]
      exact hl.2.2 (0, .ref b) List.mem_cons_self
    | 1, hv => cases hv
    | 2, hv => cases hv
    | 3, hv => cases hv
    | i + 4, hv => exact absurd (List.getElem?_eq_some_iff.mp hv).1 (show ¬ (i + 4 < 4) by omega)
  exact lw_begin (b := b) (xs := xs) hL p l e s m below meth c D cA ⟨hx, hb, hml, hown, hU, fun h => absurd (show x.name = "<init>" from h) (by decide), Nat.le_of_ble_eq_true rfl, Nat.le_of_ble_eq_true rfl⟩ hr hlocks (st_N hU) hX hbl ad s.heap [] 0 0 Ls (by decide) (by decide) ⟨hK, hP, hD, va_S.rf, hLR, hSx, fun _ h => h⟩ (fun _ => hadb)
