/-! ===== SOUNDNESS of each instruction of the pure machine ===== -/
def trV (ad : Nat → Nat) : Value → Value
  | .ref k => .ref (ad k)
  | v => v
def trE (ad : Nat → Nat) (cA : Nat → ClassId) : va_E → va_E
  | .inl (k, n, .inr (.inr (.inr (.inr f)))) => .inl (cA k, n, .inr (.inr (.inr (.inr (fun j => (f j).map ad)))))
  | .inl (k, x) => .inl (cA k, x)
  | .inr (ci, fs) => .inr (ci, fs.map (trV ad))
def wd (ad : Nat → Nat) (cA : Nat → ClassId) (h : PH) : va_W := h.mapIdx (fun i e => (ad i, trE ad cA e))
theorem wd_get (ad : Nat → Nat) (cA : Nat → ClassId) (h : PH) (k : Nat) : (wd ad cA h)[k]? = (h[k]?).map (fun e => (ad k, trE ad cA e)) := by
  simp [wd, List.getElem?_mapIdx]
theorem wd_at {ad : Nat → Nat} {cA : Nat → ClassId} {h : PH} {k : Nat} {e : va_E} (hk : lg h k = some e) : (wd ad cA h)[k]? = some (ad k, trE ad cA e) := by
  rw [wd_get, ← lg_eq, hk]; rfl
theorem wd_set (ad : Nat → Nat) (cA : Nat → ClassId) (h : PH) (k : Nat) (e : va_E) : (wd ad cA h).set k (ad k, trE ad cA e) = wd ad cA (h.set k e) := by
  apply List.ext_getElem?
  intro i
  rw [wd_get, List.getElem?_set, List.getElem?_set, wd_get]
  by_cases hk : k = i
  · subst hk
    by_cases hl : k < h.length
    · simp [wd, hl]
    · simp [wd, hl]
  · simp [hk]
theorem wd_push (ad : Nat → Nat) (cA : Nat → ClassId) (h : PH) (e : va_E) : wd ad cA (h ++ [e]) = wd ad cA h ++ [(ad h.length, trE ad cA e)] := by
  simp [wd, List.mapIdx_append]
/-- which strings there are, what they hold -/
def strK : List (String × Nat × String) := [("ToldByWitnesses", 80, "shames doing * 15 ; costs seen ; worth doing ;"), ("ToldByWitnesses$Reader", 118, "doing"), ("ToldByWitnesses$Reader", 120, "step"), ("ToldByWitnesses$Reader", 122, "number"), ("ToldByWitnesses$Reader", 124, "last"), ("ToldByWitnesses$Reader", 126, "seen"), ("ToldByWitnesses$Reader", 128, "age"), ("ToldByWitnesses$Reader", 102, "shames"), ("ToldByWitnesses$Reader", 108, "costs"), ("ToldByWitnesses$Reader", 110, "worth"), ("ToldByWitnesses$Reader", 112, "or"), ("ToldByWitnesses$Reader", 114, "and"), ("ToldByWitnesses$Reader", 116, "not")]
def strN : List Nat := [46, 5, 4, 6, 4, 4, 3, 6, 5, 5, 2, 3, 3]
def strB : List (List Int32) := [[115, 104, 97, 109, 101, 115, 32, 100, 111, 105, 110, 103, 32, 42, 32, 49, 53, 32, 59, 32, 99, 111, 115, 116, 115, 32, 115, 101, 101, 110, 32, 59, 32, 119, 111, 114, 116, 104, 32, 100, 111, 105, 110, 103, 32, 59], [100, 111, 105, 110, 103], [115, 116, 101, 112], [110, 117, 109, 98, 101, 114], [108, 97, 115, 116], [115, 101, 101, 110], [97, 103, 101], [115, 104, 97, 109, 101, 115], [99, 111, 115, 116, 115], [119, 111, 114, 116, 104], [111, 114], [97, 110, 100], [110, 111, 116]]
def undF : Nat → Int32 := fun k => [-1, 0, 0, 1, 2, 0].getD k 0
def tysF (cA : Nat → ClassId) : List (ClassId × FieldType) := [(cA 0, .int), (cA 1, .boolean), (cA 2, .object RX6), (cA 3, .object RX8), (cA 4, .object RX9)]
/-- constants outside of the heap: strings, the table of kinds, flags -/
def Sx (ad : Nat → Nat) (A : Nat → Prop) (s : State) (H : Heap) : Prop :=
  vk_S 13 strN strB (fun i => ad (sB + i)) (fun i => ad (sB + 100 + i)) A s H ∧ (∀ (i : Nat) (q : String × Nat × String), strK[i]? = some q → vk_R q.1 q.2.1 q.2.2 (ad (sB + i)) s) ∧
  va_Z "java/lang/String" "COMPACT_STRINGS" "Z" (.int 1) A s H ∧ va_Z RX1 "UNDER" "[I" (.ref (ad (sB + 200))) A s H ∧ va_T .int (ad (sB + 200)) 6 (fun j => .int (undF j)) A s H ∧
  va_Zq RJ3 "SIOOBE_FORMATTER" "Ljava/util/function/BiFunction;" A s H
def LR (ad : Nat → Nat) (nL : Nat) (Ls : Array Slot) (ls : List (Option Value)) : Prop := ls.length = nL ∧ Ls.size = nL ∧ lv_wf Ls ∧ ∀ (i : Nat) (v : Value), ls[i]? = some (some v) → Ls[i]? = some (.val (trV ad v))
def lvs (ad : Nat → Nat) (ls : List (Option Value)) : List (Nat × Value) := (List.range ls.length).filterMap (fun i => match ls[i]? with
  | some (some v) => some (i, trV ad v)
  | _ => none)
theorem lvs_mem {ad : Nat → Nat} {ls : List (Option Value)} {i : Nat} {v : Value} (h : ls[i]? = some (some v)) : (i, trV ad v) ∈ lvs ad ls := by
  refine List.mem_filterMap.mpr ⟨i, List.mem_range.mpr (List.getElem?_eq_some_iff.mp h).1, ?_⟩
  rw [h]
theorem LR.has {ad : Nat → Nat} {nL : Nat} {Ls : Array Slot} {ls : List (Option Value)} (h : LR ad nL Ls ls) : lv_has Ls nL (lvs ad ls) := by
  refine ⟨h.2.1, h.2.2.1, fun q hq => ?_⟩
  obtain ⟨i, -, hi⟩ := List.mem_filterMap.mp hq
  split at hi
  · next v hv => cases hi; exact h.2.2.2 i v hv
  · cases hi
theorem LR.rd {ad : Nat → Nat} {nL : Nat} {Ls : Array Slot} {ls : List (Option Value)} (h : LR ad nL Ls ls) {i : Nat} {v : Value} (hv : lg ls i = some (some v)) : Ls[i]? = some (.val (trV ad v)) := h.2.2.2 i v (by rw [← lg_eq]; exact hv)
theorem okSt_lt {ls : List (Option Value)} {i : Nat} (h : okSt ls i = true) : i < ls.length := by
  unfold okSt at h
  rw [Bool.and_eq_true] at h
  exact Nat.blt_eq.mp h.1
theorem okSt_no {ls : List (Option Value)} {i j : Nat} {v : Value} (h : okSt ls i = true) (hj : j + 1 = i) (hv : ls[j]? = some (some v)) : v.category = 1 := by
  subst hj
  unfold okSt at h
  rw [Bool.and_eq_true] at h
  have h2 := h.2
  dsimp only at h2
  rw [lg_eq, hv] at h2
  cases v <;> first | rfl | cases h2
theorem trV_cat (ad : Nat → Nat) (v : Value) : (trV ad v).category = v.category := by cases v <;> rfl
theorem LR.st1 {ad : Nat → Nat} {nL : Nat} {Ls : Array Slot} {ls : List (Option Value)} (h : LR ad nL Ls ls) {i : Nat} (v : Value) (ho : okSt ls i = true) {Ls' : Array Slot} (h' : lv_has Ls' nL ((i, trV ad v) :: (lvs ad ls).filter (fun q => !(q.1 == i) && !(q.1 + 1 == i && q.2.category == 2)))) : LR ad nL Ls' (ls.set i (some v)) := by
  refine ⟨by rw [List.length_set]; exact h.1, h'.1, h'.2.1, fun j w hj => ?_⟩
  rw [List.getElem?_set] at hj
  by_cases e : i = j
  · subst e
    rw [if_pos rfl, if_pos (okSt_lt ho)] at hj
    cases hj
    exact h'.2.2 _ List.mem_cons_self
  · rw [if_neg e] at hj
    refine h'.2.2 (j, trV ad w) (List.mem_cons_of_mem _ (List.mem_filter.mpr ⟨lvs_mem hj, ?_⟩))
    have e1 : (j == i) = false := by simp; exact fun z => e z.symm
    by_cases e2 : j + 1 = i
    · have := okSt_no ho e2 hj
      simp [e1, trV_cat, this]
    · have e3 : (j + 1 == i) = false := by simp; exact e2
      simp [e1, e3]
theorem LR.st2 {ad : Nat → Nat} {nL : Nat} {Ls : Array Slot} {ls : List (Option Value)} (h : LR ad nL Ls ls) {i : Nat} (v : Value) (ho : okSt ls i = true) {Ls' : Array Slot} (h' : lv_has Ls' nL ((i, trV ad v) :: (lvs ad ls).filter (fun q => !(q.1 == i) && (!(q.1 == i + 1) && !(q.1 + 1 == i && q.2.category == 2))))) : LR ad nL Ls' ((ls.set i (some v)).set (i + 1) none) := by
  refine ⟨by rw [List.length_set, List.length_set]; exact h.1, h'.1, h'.2.1, fun j w hj => ?_⟩
  rw [List.getElem?_set] at hj
  by_cases e0 : i + 1 = j
  · rw [if_pos e0] at hj
    split at hj <;> cases hj
  · rw [if_neg e0, List.getElem?_set] at hj
    by_cases e : i = j
    · subst e
      rw [if_pos rfl, if_pos (okSt_lt ho)] at hj
      cases hj
      exact h'.2.2 _ List.mem_cons_self
    · rw [if_neg e] at hj
      refine h'.2.2 (j, trV ad w) (List.mem_cons_of_mem _ (List.mem_filter.mpr ⟨lvs_mem hj, ?_⟩))
      have e1 : (j == i) = false := by simp; exact fun z => e z.symm
      have e4 : (j == i + 1) = false := by simp; exact fun z => e0 z.symm
      by_cases e2 : j + 1 = i
      · have := okSt_no ho e2 hj
        simp [e1, e4, trV_cat, this]
      · have e3 : (j + 1 == i) = false := by simp; exact e2
        simp [e1, e3, e4]
def Rl (D : va_G) (cA : Nat → ClassId) (A : Nat → Prop) (s : State) (nL : Nat) (ad : Nat → Nat) (H : Heap) (locs : List Loc) (Ls : Array Slot) (ls : List (Option Value)) (h : PH) : Prop :=
  va_K D vwCl (tysF cA) s ∧ va_P D vwCl (wd ad cA h) H ∧ va_D A (wd ad cA h) ∧ va_S A s.heap H locs ∧ LR ad nL Ls ls ∧ Sx ad A s s.heap ∧ (∀ q, s.heap.size ≤ q → A q)
def Fx (M : MI) (p : Program) (R : Room) (s : State) (m : MethodId) (args : Array Value) (meth : Method) (c : Code) : Prop :=
  p.tables.exec = Jvm.exec ∧ c.code = M.2.1 ∧ c.maxLocals = M.2.2.1 ∧ s.vm.findClass M.1.cls = some m.cls ∧ (∀ w ∈ lw_U, w.before args s = true) ∧ (M.1.name = "<init>" → meth.name = "<init>") ∧ 1 ≤ R.frames ∧ 60 ≤ R.locals
/-- the places' addresses stay, but those of the cells that came -/
def Ext (ad ad' : Nat → Nat) (n n' : Nat) : Prop := ∀ k, (k < n ∨ n' ≤ k) → ad' k = ad k
theorem Ext.rf {ad : Nat → Nat} {n n' : Nat} : Ext ad ad n n' := fun _ _ => rfl
theorem brI_0 (x y : Int32) (t f : Nat) : brI 0 x y t f = if x = y then t else f := rfl
theorem brI_1 (x y : Int32) (t f : Nat) : brI 1 x y t f = if x = y then f else t := rfl
theorem brI_2 (x y : Int32) (t f : Nat) : brI 2 x y t f = if x < y then t else f := rfl
theorem brI_3 (x y : Int32) (t f : Nat) : brI 3 x y t f = if y ≤ x then t else f := rfl
theorem brI_4 (x y : Int32) (t f : Nat) : brI 4 x y t f = if y < x then t else f := rfl
theorem brI_5 (x y : Int32) (t f : Nat) : brI 5 x y t f = if x ≤ y then t else f := rfl
def Snd (M : MI) (pc : Nat) (op : POp) : Prop :=
  ∀ (p : Program) (l : Launch) (e : Env) (R : Room) (s : State) (m : MethodId) (args : Array Value) (below : List Frame) (meth : Method) (c : Code) (Q : State → Prop) (D : va_G) (cA : Nat → ClassId) (A : Nat → Prop), Fx M p R s m args meth c →
  ∀ (ad : Nat → Nat) (H : Heap) (locs : List Loc) (cells slots : Nat) (Ls : Array Slot) (ls : List (Option Value)) (st : List Value) (h : PH) (ob : List Prop) (dc ds : Nat) (cf : CF),
    op (pc, ls, st, h) = some (ob, dc, ds, cf) → AllP ob → cells + dc ≤ R.cells → slots + ds ≤ R.slots → Rl D cA A s M.2.2.1 ad H locs Ls ls h →
    (h.length ≤ cf.2.2.2.length → ∀ (ad' : Nat → Nat) (H' : Heap) (locs' : List Loc) (Ls' : Array Slot), Ext ad ad' h.length cf.2.2.2.length → Rl D cA A s M.2.2.1 ad' H' locs' Ls' cf.2.1 cf.2.2.2 → W p l e R s m args below meth c H' locs' (cells + dc) (slots + ds) Q (F0 m cf.1 Ls' (cf.2.2.1.map (trV ad')))) →
    W p l e R s m args below meth c H locs cells slots Q (F0 m pc Ls (st.map (trV ad)))

set_option maxHeartbeats 1000000 in
theorem sd_iconst {M : MI} {pc : Nat} {n : Int} {v : Int32} (hd : decode M.2.1 pc = .ok (.iconst n, 1)) (hv : Int32.ofInt n = v) : Snd M pc (oPush (.int v) 1) := by
  intro p l e R s m args below meth c Q D cA A F ad H locs cells slots Ls ls st h ob dc ds cf hop hob hdc hds L kk
  obtain ⟨hx, hb, hml, hown, hts, hin, hfr, hlo⟩ := F
  obtain ⟨hK, hP, hD, hS, hL, hSx, hA⟩ := id L
  cases hop
  exact lv_iconst hx hb hd hv (kk (Nat.le_refl _) ad H locs Ls Ext.rf L)
set_option maxHeartbeats 1000000 in
theorem sd_bipush {M : MI} {pc : Nat} {n : Int} {v : Int32} (hd : decode M.2.1 pc = .ok (.bipush n, 2)) (hv : (Int8.ofInt n).toInt32 = v) : Snd M pc (oPush (.int v) 2) := by
  intro p l e R s m args below meth c Q D cA A F ad H locs cells slots Ls ls st h ob dc ds cf hop hob hdc hds L kk
  obtain ⟨hx, hb, hml, hown, hts, hin, hfr, hlo⟩ := F
  obtain ⟨hK, hP, hD, hS, hL, hSx, hA⟩ := id L
  cases hop
  exact lv_bipush hx hb hd hv (kk (Nat.le_refl _) ad H locs Ls Ext.rf L)
set_option maxHeartbeats 1000000 in
theorem sd_sipush {M : MI} {pc : Nat} {n : Int} {v : Int32} (hd : decode M.2.1 pc = .ok (.sipush n, 3)) (hv : (Int16.ofInt n).toInt32 = v) : Snd M pc (oPush (.int v) 3) := by
  intro p l e R s m args below meth c Q D cA A F ad H locs cells slots Ls ls st h ob dc ds cf hop hob hdc hds L kk
  obtain ⟨hx, hb, hml, hown, hts, hin, hfr, hlo⟩ := F
  obtain ⟨hK, hP, hD, hS, hL, hSx, hA⟩ := id L
  cases hop
  exact lv_sipush hx hb hd hv (kk (Nat.le_refl _) ad H locs Ls Ext.rf L)
set_option maxHeartbeats 1000000 in
theorem sd_lconst {M : MI} {pc : Nat} {n : Fin 2} {v : Int64} (hd : decode M.2.1 pc = .ok (.lconst n, 1)) (hv : Int64.ofNat (n : Nat) = v) : Snd M pc (oPush (.long v) 1) := by
  intro p l e R s m args below meth c Q D cA A F ad H locs cells slots Ls ls st h ob dc ds cf hop hob hdc hds L kk
  obtain ⟨hx, hb, hml, hown, hts, hin, hfr, hlo⟩ := F
  obtain ⟨hK, hP, hD, hS, hL, hSx, hA⟩ := id L
  cases hop
  exact lv_lconst hx hb hd hv (kk (Nat.le_refl _) ad H locs Ls Ext.rf L)
set_option maxHeartbeats 1000000 in
theorem sd_ldc {M : MI} {pc : Nat} {n : Nat} {v : Int32} (hw : Jvm.Cond.constant M.1.cls n v ∈ lw_U) (hd : decode M.2.1 pc = .ok (.ldc n, 2)) : Snd M pc (oPush (.int v) 2) := by
  intro p l e R s m args below meth c Q D cA A F ad H locs cells slots Ls ls st h ob dc ds cf hop hob hdc hds L kk
  obtain ⟨hx, hb, hml, hown, hts, hin, hfr, hlo⟩ := F
  obtain ⟨hK, hP, hD, hS, hL, hSx, hA⟩ := id L
  cases hop
  exact lv_ldc hx hb hown (hts _ hw) hd (kk (Nat.le_refl _) ad H locs Ls Ext.rf L)
set_option maxHeartbeats 1000000 in
theorem sd_ldcw {M : MI} {pc : Nat} {n : Nat} {v : Int32} (hw : Jvm.Cond.constant M.1.cls n v ∈ lw_U) (hd : decode M.2.1 pc = .ok (.ldc_w n, 3)) : Snd M pc (oPush (.int v) 3) := by
  intro p l e R s m args below meth c Q D cA A F ad H locs cells slots Ls ls st h ob dc ds cf hop hob hdc hds L kk
  obtain ⟨hx, hb, hml, hown, hts, hin, hfr, hlo⟩ := F
  obtain ⟨hK, hP, hD, hS, hL, hSx, hA⟩ := id L
  cases hop
  exact lv_ldcw hx hb hown (hts _ hw) hd (kk (Nat.le_refl _) ad H locs Ls Ext.rf L)
set_option maxHeartbeats 1000000 in
theorem sd_ldc2 {M : MI} {pc : Nat} {n : Nat} {v : Int64} (hw : Jvm.Cond.constantLong M.1.cls n v ∈ lw_U) (hd : decode M.2.1 pc = .ok (.ldc2_w n, 3)) : Snd M pc (oPush (.long v) 3) := by
  intro p l e R s m args below meth c Q D cA A F ad H locs cells slots Ls ls st h ob dc ds cf hop hob hdc hds L kk
  obtain ⟨hx, hb, hml, hown, hts, hin, hfr, hlo⟩ := F
  obtain ⟨hK, hP, hD, hS, hL, hSx, hA⟩ := id L
  cases hop
  exact lv_ldc2 hx hb hown (hts _ hw) hd (kk (Nat.le_refl _) ad H locs Ls Ext.rf L)
set_option maxHeartbeats 1000000 in
theorem sd_null {M : MI} {pc : Nat} (hd : decode M.2.1 pc = .ok (.aconst_null, 1)) : Snd M pc (oPush .null 1) := by
  intro p l e R s m args below meth c Q D cA A F ad H locs cells slots Ls ls st h ob dc ds cf hop hob hdc hds L kk
  obtain ⟨hx, hb, hml, hown, hts, hin, hfr, hlo⟩ := F
  obtain ⟨hK, hP, hD, hS, hL, hSx, hA⟩ := id L
  cases hop
  exact lv_null hx hb hd (kk (Nat.le_refl _) ad H locs Ls Ext.rf L)
set_option maxHeartbeats 1000000 in
theorem sd_iload_n {M : MI} {pc : Nat} {i : Nat} {k : Fin 4} (hi : (k : Nat) = i) (hd : decode M.2.1 pc = .ok (.iload_n k, 1)) : Snd M pc (oLdI i 1) := by
  intro p l e R s m args below meth c Q D cA A F ad H locs cells slots Ls ls st h ob dc ds cf hop hob hdc hds L kk
  obtain ⟨hx, hb, hml, hown, hts, hin, hfr, hlo⟩ := F
  obtain ⟨hK, hP, hD, hS, hL, hSx, hA⟩ := id L
  dsimp only [oLdI] at hop
  split at hop
  · next x hx2 =>
    cases hop
    exact lv_iload_n hx hb hd hi (hL.rd hx2) (kk (Nat.le_refl _) ad H locs Ls Ext.rf L)
  · cases hop
set_option maxHeartbeats 1000000 in
theorem sd_iload {M : MI} {pc : Nat} {i : Nat} (hd : decode M.2.1 pc = .ok (.iload i, 2)) : Snd M pc (oLdI i 2) := by
  intro p l e R s m args below meth c Q D cA A F ad H locs cells slots Ls ls st h ob dc ds cf hop hob hdc hds L kk
  obtain ⟨hx, hb, hml, hown, hts, hin, hfr, hlo⟩ := F
  obtain ⟨hK, hP, hD, hS, hL, hSx, hA⟩ := id L
  dsimp only [oLdI] at hop
  split at hop
  · next x hx2 =>
    cases hop
    exact lv_iload hx hb hd (hL.rd hx2) (kk (Nat.le_refl _) ad H locs Ls Ext.rf L)
  · cases hop
set_option maxHeartbeats 1000000 in
theorem sd_lload_n {M : MI} {pc : Nat} {i : Nat} {k : Fin 4} (hi : (k : Nat) = i) (hd : decode M.2.1 pc = .ok (.lload_n k, 1)) : Snd M pc (oLdL i 1) := by
  intro p l e R s m args below meth c Q D cA A F ad H locs cells slots Ls ls st h ob dc ds cf hop hob hdc hds L kk
  obtain ⟨hx, hb, hml, hown, hts, hin, hfr, hlo⟩ := F
  obtain ⟨hK, hP, hD, hS, hL, hSx, hA⟩ := id L
  dsimp only [oLdL] at hop
  split at hop
  · next x hx2 =>
    cases hop
    exact lv_lload_n hx hb hd hi (hL.rd hx2) (kk (Nat.le_refl _) ad H locs Ls Ext.rf L)
  · cases hop
set_option maxHeartbeats 1000000 in
theorem sd_lload {M : MI} {pc : Nat} {i : Nat} (hd : decode M.2.1 pc = .ok (.lload i, 2)) : Snd M pc (oLdL i 2) := by
  intro p l e R s m args below meth c Q D cA A F ad H locs cells slots Ls ls st h ob dc ds cf hop hob hdc hds L kk
  obtain ⟨hx, hb, hml, hown, hts, hin, hfr, hlo⟩ := F
  obtain ⟨hK, hP, hD, hS, hL, hSx, hA⟩ := id L
  dsimp only [oLdL] at hop
  split at hop
  · next x hx2 =>
    cases hop
    exact lv_lload hx hb hd (hL.rd hx2) (kk (Nat.le_refl _) ad H locs Ls Ext.rf L)
  · cases hop
set_option maxHeartbeats 1000000 in
theorem sd_aload_n {M : MI} {pc : Nat} {i : Nat} {k : Fin 4} (hi : (k : Nat) = i) (hd : decode M.2.1 pc = .ok (.aload_n k, 1)) : Snd M pc (oLdA i 1) := by
  intro p l e R s m args below meth c Q D cA A F ad H locs cells slots Ls ls st h ob dc ds cf hop hob hdc hds L kk
  obtain ⟨hx, hb, hml, hown, hts, hin, hfr, hlo⟩ := F
  obtain ⟨hK, hP, hD, hS, hL, hSx, hA⟩ := id L
  dsimp only [oLdA] at hop
  split at hop
  · next x hx2 =>
    cases hop
    exact lv_aload_n hx hb hd hi (hL.rd hx2) (kk (Nat.le_refl _) ad H locs Ls Ext.rf L)
  · next hx2 =>
    cases hop
    exact lv_aload_nN hx hb hd hi (hL.rd hx2) (kk (Nat.le_refl _) ad H locs Ls Ext.rf L)
  · cases hop
set_option maxHeartbeats 1000000 in
theorem sd_aload {M : MI} {pc : Nat} {i : Nat} (hd : decode M.2.1 pc = .ok (.aload i, 2)) : Snd M pc (oLdA i 2) := by
  intro p l e R s m args below meth c Q D cA A F ad H locs cells slots Ls ls st h ob dc ds cf hop hob hdc hds L kk
  obtain ⟨hx, hb, hml, hown, hts, hin, hfr, hlo⟩ := F
  obtain ⟨hK, hP, hD, hS, hL, hSx, hA⟩ := id L
  dsimp only [oLdA] at hop
  split at hop
  · next x hx2 =>
    cases hop
    exact lv_aload hx hb hd (hL.rd hx2) (kk (Nat.le_refl _) ad H locs Ls Ext.rf L)
  · next hx2 =>
    cases hop
    exact lv_aloadN hx hb hd (hL.rd hx2) (kk (Nat.le_refl _) ad H locs Ls Ext.rf L)
  · cases hop
set_option maxHeartbeats 1000000 in
theorem sd_istore_n {M : MI} {pc : Nat} {i : Nat} {k : Fin 4} (hi : (k : Nat) = i) (hd : decode M.2.1 pc = .ok (.istore_n k, 1)) : Snd M pc (oStI i 1) := by
  intro p l e R s m args below meth c Q D cA A F ad H locs cells slots Ls ls st h ob dc ds cf hop hob hdc hds L kk
  obtain ⟨hx, hb, hml, hown, hts, hin, hfr, hlo⟩ := F
  obtain ⟨hK, hP, hD, hS, hL, hSx, hA⟩ := id L
  dsimp only [oStI] at hop
  split at hop
  · cases ho0 : okSt ls i with
    | false => rw [ho0] at hop; cases hop
    | true =>
      rw [ho0] at hop
      cases hop
      have ho := ho0
      exact lv_istore_n hx hb hd hi hL.has (hL.1 ▸ okSt_lt ho) rfl (fun Ls9 h9 => kk (Nat.le_refl _) ad H locs Ls9 Ext.rf ⟨hK, hP, hD, hS, hL.st1 _ ho h9, hSx, hA⟩)
  · cases hop
set_option maxHeartbeats 1000000 in
theorem sd_istore {M : MI} {pc : Nat} {i : Nat} (hd : decode M.2.1 pc = .ok (.istore i, 2)) : Snd M pc (oStI i 2) := by
  intro p l e R s m args below meth c Q D cA A F ad H locs cells slots Ls ls st h ob dc ds cf hop hob hdc hds L kk
  obtain ⟨hx, hb, hml, hown, hts, hin, hfr, hlo⟩ := F
  obtain ⟨hK, hP, hD, hS, hL, hSx, hA⟩ := id L
  dsimp only [oStI] at hop
  split at hop
  · cases ho0 : okSt ls i with
    | false => rw [ho0] at hop; cases hop
    | true =>
      rw [ho0] at hop
      cases hop
      have ho := ho0
      exact lv_istore hx hb hd hL.has (hL.1 ▸ okSt_lt ho) rfl (fun Ls9 h9 => kk (Nat.le_refl _) ad H locs Ls9 Ext.rf ⟨hK, hP, hD, hS, hL.st1 _ ho h9, hSx, hA⟩)
  · cases hop
set_option maxHeartbeats 1000000 in
theorem sd_astore_n {M : MI} {pc : Nat} {i : Nat} {k : Fin 4} (hi : (k : Nat) = i) (hd : decode M.2.1 pc = .ok (.astore_n k, 1)) : Snd M pc (oStA i 1) := by
  intro p l e R s m args below meth c Q D cA A F ad H locs cells slots Ls ls st h ob dc ds cf hop hob hdc hds L kk
  obtain ⟨hx, hb, hml, hown, hts, hin, hfr, hlo⟩ := F
  obtain ⟨hK, hP, hD, hS, hL, hSx, hA⟩ := id L
  dsimp only [oStA] at hop
  split at hop
  · cases ho0 : okSt ls i with
    | false => rw [ho0] at hop; cases hop
    | true =>
      rw [ho0] at hop
      cases hop
      have ho := ho0
      exact lv_astore_n hx hb hd hi hL.has (hL.1 ▸ okSt_lt ho) rfl (fun Ls9 h9 => kk (Nat.le_refl _) ad H locs Ls9 Ext.rf ⟨hK, hP, hD, hS, hL.st1 _ ho h9, hSx, hA⟩)
  · cases ho0 : okSt ls i with
    | false => rw [ho0] at hop; cases hop
    | true =>
      rw [ho0] at hop
      cases hop
      have ho := ho0
      exact lv_astore_nN hx hb hd hi hL.has (hL.1 ▸ okSt_lt ho) rfl (fun Ls9 h9 => kk (Nat.le_refl _) ad H locs Ls9 Ext.rf ⟨hK, hP, hD, hS, hL.st1 _ ho h9, hSx, hA⟩)
  · cases hop
set_option maxHeartbeats 1000000 in
theorem sd_astore {M : MI} {pc : Nat} {i : Nat} (hd : decode M.2.1 pc = .ok (.astore i, 2)) : Snd M pc (oStA i 2) := by
  intro p l e R s m args below meth c Q D cA A F ad H locs cells slots Ls ls st h ob dc ds cf hop hob hdc hds L kk
  obtain ⟨hx, hb, hml, hown, hts, hin, hfr, hlo⟩ := F
  obtain ⟨hK, hP, hD, hS, hL, hSx, hA⟩ := id L
  dsimp only [oStA] at hop
  split at hop
  · cases ho0 : okSt ls i with
    | false => rw [ho0] at hop; cases hop
    | true =>
      rw [ho0] at hop
      cases hop
      have ho := ho0
      exact lv_astore hx hb hd hL.has (hL.1 ▸ okSt_lt ho) rfl (fun Ls9 h9 => kk (Nat.le_refl _) ad H locs Ls9 Ext.rf ⟨hK, hP, hD, hS, hL.st1 _ ho h9, hSx, hA⟩)
  · cases ho0 : okSt ls i with
    | false => rw [ho0] at hop; cases hop
    | true =>
      rw [ho0] at hop
      cases hop
      have ho := ho0
      exact lv_astoreN hx hb hd hL.has (hL.1 ▸ okSt_lt ho) rfl (fun Ls9 h9 => kk (Nat.le_refl _) ad H locs Ls9 Ext.rf ⟨hK, hP, hD, hS, hL.st1 _ ho h9, hSx, hA⟩)
  · cases hop
set_option maxHeartbeats 1000000 in
theorem sd_lstore_n {M : MI} {pc : Nat} {i : Nat} {k : Fin 4} (hi : (k : Nat) = i) (hd : decode M.2.1 pc = .ok (.lstore_n k, 1)) : Snd M pc (oStL i 1) := by
  intro p l e R s m args below meth c Q D cA A F ad H locs cells slots Ls ls st h ob dc ds cf hop hob hdc hds L kk
  obtain ⟨hx, hb, hml, hown, hts, hin, hfr, hlo⟩ := F
  obtain ⟨hK, hP, hD, hS, hL, hSx, hA⟩ := id L
  dsimp only [oStL] at hop
  split at hop
  · cases ho0 : (okSt ls i && Nat.blt (i + 1) ls.length) with
    | false => rw [ho0] at hop; cases hop
    | true =>
      rw [ho0] at hop
      cases hop
      rw [Bool.and_eq_true] at ho0
      have ho := ho0.1
      have ho2 := Nat.blt_eq.mp ho0.2
      exact lv_lstore_n hx hb hd hi hL.has (hL.1 ▸ ho2) rfl (fun Ls9 h9 => kk (Nat.le_refl _) ad H locs Ls9 Ext.rf ⟨hK, hP, hD, hS, hL.st2 _ ho h9, hSx, hA⟩)
  · cases hop
set_option maxHeartbeats 1000000 in
theorem sd_lstore {M : MI} {pc : Nat} {i : Nat} (hd : decode M.2.1 pc = .ok (.lstore i, 2)) : Snd M pc (oStL i 2) := by
  intro p l e R s m args below meth c Q D cA A F ad H locs cells slots Ls ls st h ob dc ds cf hop hob hdc hds L kk
  obtain ⟨hx, hb, hml, hown, hts, hin, hfr, hlo⟩ := F
  obtain ⟨hK, hP, hD, hS, hL, hSx, hA⟩ := id L
  dsimp only [oStL] at hop
  split at hop
  · cases ho0 : (okSt ls i && Nat.blt (i + 1) ls.length) with
    | false => rw [ho0] at hop; cases hop
    | true =>
      rw [ho0] at hop
      cases hop
      rw [Bool.and_eq_true] at ho0
      have ho := ho0.1
      have ho2 := Nat.blt_eq.mp ho0.2
      exact lv_lstore hx hb hd hL.has (hL.1 ▸ ho2) rfl (fun Ls9 h9 => kk (Nat.le_refl _) ad H locs Ls9 Ext.rf ⟨hK, hP, hD, hS, hL.st2 _ ho h9, hSx, hA⟩)
  · cases hop
set_option maxHeartbeats 1000000 in
theorem sd_iinc {M : MI} {pc : Nat} {i : Nat} {n : Int} {v : Int32} (hv : Int32.ofInt n = v) (hd : decode M.2.1 pc = .ok (.iinc i n, 3)) : Snd M pc (oInc i v) := by
  intro p l e R s m args below meth c Q D cA A F ad H locs cells slots Ls ls st h ob dc ds cf hop hob hdc hds L kk
  obtain ⟨hx, hb, hml, hown, hts, hin, hfr, hlo⟩ := F
  obtain ⟨hK, hP, hD, hS, hL, hSx, hA⟩ := id L
  dsimp only [oInc] at hop
  split at hop
  · next x hx2 =>
    cases ho : okSt ls i with
    | false => rw [ho] at hop; cases hop
    | true =>
      rw [ho] at hop
      cases hop
      subst hv
      have hm := lvs_mem (ad := ad) (by rw [← lg_eq]; exact hx2)
      obtain ⟨k9, hk9⟩ := List.getElem?_of_mem hm
      exact lv_iinc hx hb hd hL.has hk9 rfl (hL.1 ▸ okSt_lt ho) rfl (fun Ls9 h9 => kk (Nat.le_refl _) ad H locs Ls9 Ext.rf ⟨hK, hP, hD, hS, hL.st1 _ ho h9, hSx, hA⟩)
  · cases hop
set_option maxHeartbeats 1000000 in
theorem sd_iadd {M : MI} {pc : Nat} (hd : decode M.2.1 pc = .ok (.iadd, 1)) : Snd M pc (oBin (fun x y => x + y)) := by
  intro p l e R s m args below meth c Q D cA A F ad H locs cells slots Ls ls st h ob dc ds cf hop hob hdc hds L kk
  obtain ⟨hx, hb, hml, hown, hts, hin, hfr, hlo⟩ := F
  obtain ⟨hK, hP, hD, hS, hL, hSx, hA⟩ := id L
  dsimp only [oBin] at hop
  split at hop
  · cases hop
    exact lv_iadd hx hb hd (kk (Nat.le_refl _) ad H locs Ls Ext.rf L)
  · cases hop
set_option maxHeartbeats 1000000 in
theorem sd_isub {M : MI} {pc : Nat} (hd : decode M.2.1 pc = .ok (.isub, 1)) : Snd M pc (oBin (fun x y => x - y)) := by
  intro p l e R s m args below meth c Q D cA A F ad H locs cells slots Ls ls st h ob dc ds cf hop hob hdc hds L kk
  obtain ⟨hx, hb, hml, hown, hts, hin, hfr, hlo⟩ := F
  obtain ⟨hK, hP, hD, hS, hL, hSx, hA⟩ := id L
  dsimp only [oBin] at hop
  split at hop
  · cases hop
    exact lv_isub hx hb hd (kk (Nat.le_refl _) ad H locs Ls Ext.rf L)
  · cases hop
set_option maxHeartbeats 1000000 in
theorem sd_imul {M : MI} {pc : Nat} (hd : decode M.2.1 pc = .ok (.imul, 1)) : Snd M pc (oBin (fun x y => x * y)) := by
  intro p l e R s m args below meth c Q D cA A F ad H locs cells slots Ls ls st h ob dc ds cf hop hob hdc hds L kk
  obtain ⟨hx, hb, hml, hown, hts, hin, hfr, hlo⟩ := F
  obtain ⟨hK, hP, hD, hS, hL, hSx, hA⟩ := id L
  dsimp only [oBin] at hop
  split at hop
  · cases hop
    exact lv_imul hx hb hd (kk (Nat.le_refl _) ad H locs Ls Ext.rf L)
  · cases hop
set_option maxHeartbeats 1000000 in
theorem sd_iand {M : MI} {pc : Nat} (hd : decode M.2.1 pc = .ok (.iand, 1)) : Snd M pc (oBin (fun x y => x &&& y)) := by
  intro p l e R s m args below meth c Q D cA A F ad H locs cells slots Ls ls st h ob dc ds cf hop hob hdc hds L kk
  obtain ⟨hx, hb, hml, hown, hts, hin, hfr, hlo⟩ := F
  obtain ⟨hK, hP, hD, hS, hL, hSx, hA⟩ := id L
  dsimp only [oBin] at hop
  split at hop
  · cases hop
    exact lv_iand hx hb hd (kk (Nat.le_refl _) ad H locs Ls Ext.rf L)
  · cases hop
set_option maxHeartbeats 1000000 in
theorem sd_ior {M : MI} {pc : Nat} (hd : decode M.2.1 pc = .ok (.ior, 1)) : Snd M pc (oBin (fun x y => x ||| y)) := by
  intro p l e R s m args below meth c Q D cA A F ad H locs cells slots Ls ls st h ob dc ds cf hop hob hdc hds L kk
  obtain ⟨hx, hb, hml, hown, hts, hin, hfr, hlo⟩ := F
  obtain ⟨hK, hP, hD, hS, hL, hSx, hA⟩ := id L
  dsimp only [oBin] at hop
  split at hop
  · cases hop
    exact lv_ior hx hb hd (kk (Nat.le_refl _) ad H locs Ls Ext.rf L)
  · cases hop
set_option maxHeartbeats 1000000 in
theorem sd_ishl {M : MI} {pc : Nat} (hd : decode M.2.1 pc = .ok (.ishl, 1)) : Snd M pc (oBin (fun x y => x <<< (y &&& 31))) := by
  intro p l e R s m args below meth c Q D cA A F ad H locs cells slots Ls ls st h ob dc ds cf hop hob hdc hds L kk
  obtain ⟨hx, hb, hml, hown, hts, hin, hfr, hlo⟩ := F
  obtain ⟨hK, hP, hD, hS, hL, hSx, hA⟩ := id L
  dsimp only [oBin] at hop
  split at hop
  · cases hop
    exact lv_ishl hx hb hd (kk (Nat.le_refl _) ad H locs Ls Ext.rf L)
  · cases hop
set_option maxHeartbeats 1000000 in
theorem sd_ishr {M : MI} {pc : Nat} (hd : decode M.2.1 pc = .ok (.ishr, 1)) : Snd M pc (oBin (fun x y => x >>> (y &&& 31))) := by
  intro p l e R s m args below meth c Q D cA A F ad H locs cells slots Ls ls st h ob dc ds cf hop hob hdc hds L kk
  obtain ⟨hx, hb, hml, hown, hts, hin, hfr, hlo⟩ := F
  obtain ⟨hK, hP, hD, hS, hL, hSx, hA⟩ := id L
  dsimp only [oBin] at hop
  split at hop
  · cases hop
    exact lv_ishr hx hb hd (kk (Nat.le_refl _) ad H locs Ls Ext.rf L)
  · cases hop
set_option maxHeartbeats 1000000 in
theorem sd_iushr {M : MI} {pc : Nat} (hd : decode M.2.1 pc = .ok (.iushr, 1)) : Snd M pc (oBin (fun x y => (x.toUInt32 >>> (y.toUInt32 &&& Int32.toUInt32 31)).toInt32)) := by
  intro p l e R s m args below meth c Q D cA A F ad H locs cells slots Ls ls st h ob dc ds cf hop hob hdc hds L kk
  obtain ⟨hx, hb, hml, hown, hts, hin, hfr, hlo⟩ := F
  obtain ⟨hK, hP, hD, hS, hL, hSx, hA⟩ := id L
  dsimp only [oBin] at hop
  split at hop
  · cases hop
    exact lv_iushr hx hb hd rfl (kk (Nat.le_refl _) ad H locs Ls Ext.rf L)
  · cases hop
set_option maxHeartbeats 1000000 in
theorem sd_idiv {M : MI} {pc : Nat} (hd : decode M.2.1 pc = .ok (.idiv, 1)) : Snd M pc (oDiv (fun x y => x / y)) := by
  intro p l e R s m args below meth c Q D cA A F ad H locs cells slots Ls ls st h ob dc ds cf hop hob hdc hds L kk
  obtain ⟨hx, hb, hml, hown, hts, hin, hfr, hlo⟩ := F
  obtain ⟨hK, hP, hD, hS, hL, hSx, hA⟩ := id L
  dsimp only [oDiv] at hop
  split at hop
  · cases hop
    exact lv_idiv hx hb hd hob.1 (kk (Nat.le_refl _) ad H locs Ls Ext.rf L)
  · cases hop
set_option maxHeartbeats 1000000 in
theorem sd_irem {M : MI} {pc : Nat} (hd : decode M.2.1 pc = .ok (.irem, 1)) : Snd M pc (oDiv (fun x y => x - x / y * y)) := by
  intro p l e R s m args below meth c Q D cA A F ad H locs cells slots Ls ls st h ob dc ds cf hop hob hdc hds L kk
  obtain ⟨hx, hb, hml, hown, hts, hin, hfr, hlo⟩ := F
  obtain ⟨hK, hP, hD, hS, hL, hSx, hA⟩ := id L
  dsimp only [oDiv] at hop
  split at hop
  · cases hop
    exact lv_irem hx hb hd hob.1 (kk (Nat.le_refl _) ad H locs Ls Ext.rf L)
  · cases hop
set_option maxHeartbeats 1000000 in
theorem sd_ineg {M : MI} {pc : Nat} (hd : decode M.2.1 pc = .ok (.ineg, 1)) : Snd M pc (oUn (fun x => -x)) := by
  intro p l e R s m args below meth c Q D cA A F ad H locs cells slots Ls ls st h ob dc ds cf hop hob hdc hds L kk
  obtain ⟨hx, hb, hml, hown, hts, hin, hfr, hlo⟩ := F
  obtain ⟨hK, hP, hD, hS, hL, hSx, hA⟩ := id L
  dsimp only [oUn] at hop
  split at hop
  · cases hop
    exact lv_ineg hx hb hd (kk (Nat.le_refl _) ad H locs Ls Ext.rf L)
  · cases hop
set_option maxHeartbeats 1000000 in
theorem sd_i2b {M : MI} {pc : Nat} (hd : decode M.2.1 pc = .ok (.i2b, 1)) : Snd M pc (oUn (fun x => x.toInt8.toInt32)) := by
  intro p l e R s m args below meth c Q D cA A F ad H locs cells slots Ls ls st h ob dc ds cf hop hob hdc hds L kk
  obtain ⟨hx, hb, hml, hown, hts, hin, hfr, hlo⟩ := F
  obtain ⟨hK, hP, hD, hS, hL, hSx, hA⟩ := id L
  dsimp only [oUn] at hop
  split at hop
  · cases hop
    exact lv_i2b hx hb hd rfl (kk (Nat.le_refl _) ad H locs Ls Ext.rf L)
  · cases hop
set_option maxHeartbeats 1000000 in
theorem sd_i2s {M : MI} {pc : Nat} (hd : decode M.2.1 pc = .ok (.i2s, 1)) : Snd M pc (oUn (fun x => x.toInt16.toInt32)) := by
  intro p l e R s m args below meth c Q D cA A F ad H locs cells slots Ls ls st h ob dc ds cf hop hob hdc hds L kk
  obtain ⟨hx, hb, hml, hown, hts, hin, hfr, hlo⟩ := F
  obtain ⟨hK, hP, hD, hS, hL, hSx, hA⟩ := id L
  dsimp only [oUn] at hop
  split at hop
  · cases hop
    exact lv_i2s hx hb hd rfl (kk (Nat.le_refl _) ad H locs Ls Ext.rf L)
  · cases hop
set_option maxHeartbeats 1000000 in
theorem sd_i2c {M : MI} {pc : Nat} (hd : decode M.2.1 pc = .ok (.i2c, 1)) : Snd M pc (oUn (fun x => (x.toUInt32 % 65536).toInt32)) := by
  intro p l e R s m args below meth c Q D cA A F ad H locs cells slots Ls ls st h ob dc ds cf hop hob hdc hds L kk
  obtain ⟨hx, hb, hml, hown, hts, hin, hfr, hlo⟩ := F
  obtain ⟨hK, hP, hD, hS, hL, hSx, hA⟩ := id L
  dsimp only [oUn] at hop
  split at hop
  · cases hop
    exact lv_i2c hx hb hd rfl (kk (Nat.le_refl _) ad H locs Ls Ext.rf L)
  · cases hop
set_option maxHeartbeats 1000000 in
theorem sd_ladd {M : MI} {pc : Nat} (hd : decode M.2.1 pc = .ok (.ladd, 1)) : Snd M pc (oBinL (fun x y => x + y)) := by
  intro p l e R s m args below meth c Q D cA A F ad H locs cells slots Ls ls st h ob dc ds cf hop hob hdc hds L kk
  obtain ⟨hx, hb, hml, hown, hts, hin, hfr, hlo⟩ := F
  obtain ⟨hK, hP, hD, hS, hL, hSx, hA⟩ := id L
  dsimp only [oBinL] at hop
  split at hop
  · cases hop
    exact lv_ladd hx hb hd (kk (Nat.le_refl _) ad H locs Ls Ext.rf L)
  · cases hop
set_option maxHeartbeats 1000000 in
theorem sd_lsub {M : MI} {pc : Nat} (hd : decode M.2.1 pc = .ok (.lsub, 1)) : Snd M pc (oBinL (fun x y => x - y)) := by
  intro p l e R s m args below meth c Q D cA A F ad H locs cells slots Ls ls st h ob dc ds cf hop hob hdc hds L kk
  obtain ⟨hx, hb, hml, hown, hts, hin, hfr, hlo⟩ := F
  obtain ⟨hK, hP, hD, hS, hL, hSx, hA⟩ := id L
  dsimp only [oBinL] at hop
  split at hop
  · cases hop
    exact lv_lsub hx hb hd (kk (Nat.le_refl _) ad H locs Ls Ext.rf L)
  · cases hop
set_option maxHeartbeats 1000000 in
theorem sd_lmul {M : MI} {pc : Nat} (hd : decode M.2.1 pc = .ok (.lmul, 1)) : Snd M pc (oBinL (fun x y => x * y)) := by
  intro p l e R s m args below meth c Q D cA A F ad H locs cells slots Ls ls st h ob dc ds cf hop hob hdc hds L kk
  obtain ⟨hx, hb, hml, hown, hts, hin, hfr, hlo⟩ := F
  obtain ⟨hK, hP, hD, hS, hL, hSx, hA⟩ := id L
  dsimp only [oBinL] at hop
  split at hop
  · cases hop
    exact lv_lmul hx hb hd (kk (Nat.le_refl _) ad H locs Ls Ext.rf L)
  · cases hop
set_option maxHeartbeats 1000000 in
theorem sd_ldiv {M : MI} {pc : Nat} (hd : decode M.2.1 pc = .ok (.ldiv, 1)) : Snd M pc (oDivL (fun x y => x / y)) := by
  intro p l e R s m args below meth c Q D cA A F ad H locs cells slots Ls ls st h ob dc ds cf hop hob hdc hds L kk
  obtain ⟨hx, hb, hml, hown, hts, hin, hfr, hlo⟩ := F
  obtain ⟨hK, hP, hD, hS, hL, hSx, hA⟩ := id L
  dsimp only [oDivL] at hop
  split at hop
  · cases hop
    exact lv_ldiv hx hb hd hob.1 (kk (Nat.le_refl _) ad H locs Ls Ext.rf L)
  · cases hop
set_option maxHeartbeats 1000000 in
theorem sd_lrem {M : MI} {pc : Nat} (hd : decode M.2.1 pc = .ok (.lrem, 1)) : Snd M pc (oDivL (fun x y => x - x / y * y)) := by
  intro p l e R s m args below meth c Q D cA A F ad H locs cells slots Ls ls st h ob dc ds cf hop hob hdc hds L kk
  obtain ⟨hx, hb, hml, hown, hts, hin, hfr, hlo⟩ := F
  obtain ⟨hK, hP, hD, hS, hL, hSx, hA⟩ := id L
  dsimp only [oDivL] at hop
  split at hop
  · cases hop
    exact lv_lrem hx hb hd hob.1 (kk (Nat.le_refl _) ad H locs Ls Ext.rf L)
  · cases hop
set_option maxHeartbeats 1000000 in
theorem sd_i2l {M : MI} {pc : Nat} (hd : decode M.2.1 pc = .ok (.i2l, 1)) : Snd M pc (oI2l) := by
  intro p l e R s m args below meth c Q D cA A F ad H locs cells slots Ls ls st h ob dc ds cf hop hob hdc hds L kk
  obtain ⟨hx, hb, hml, hown, hts, hin, hfr, hlo⟩ := F
  obtain ⟨hK, hP, hD, hS, hL, hSx, hA⟩ := id L
  dsimp only [oI2l] at hop
  split at hop
  · cases hop
    exact lv_i2l hx hb hd rfl (kk (Nat.le_refl _) ad H locs Ls Ext.rf L)
  · cases hop
set_option maxHeartbeats 1000000 in
theorem sd_l2i {M : MI} {pc : Nat} (hd : decode M.2.1 pc = .ok (.l2i, 1)) : Snd M pc (oL2i) := by
  intro p l e R s m args below meth c Q D cA A F ad H locs cells slots Ls ls st h ob dc ds cf hop hob hdc hds L kk
  obtain ⟨hx, hb, hml, hown, hts, hin, hfr, hlo⟩ := F
  obtain ⟨hK, hP, hD, hS, hL, hSx, hA⟩ := id L
  dsimp only [oL2i] at hop
  split at hop
  · cases hop
    exact lv_l2i hx hb hd rfl (kk (Nat.le_refl _) ad H locs Ls Ext.rf L)
  · cases hop
set_option maxHeartbeats 1000000 in
theorem sd_lcmp {M : MI} {pc : Nat} (hd : decode M.2.1 pc = .ok (.lcmp, 1)) : Snd M pc (oLcmp) := by
  intro p l e R s m args below meth c Q D cA A F ad H locs cells slots Ls ls st h ob dc ds cf hop hob hdc hds L kk
  obtain ⟨hx, hb, hml, hown, hts, hin, hfr, hlo⟩ := F
  obtain ⟨hK, hP, hD, hS, hL, hSx, hA⟩ := id L
  dsimp only [oLcmp] at hop
  split at hop
  · cases hop
    exact W.lcmp hx hb hd (kk (Nat.le_refl _) ad H locs Ls Ext.rf L)
  · cases hop
set_option maxHeartbeats 1000000 in
theorem sd_dup {M : MI} {pc : Nat} (hd : decode M.2.1 pc = .ok (.dup, 1)) : Snd M pc (oDup) := by
  intro p l e R s m args below meth c Q D cA A F ad H locs cells slots Ls ls st h ob dc ds cf hop hob hdc hds L kk
  obtain ⟨hx, hb, hml, hown, hts, hin, hfr, hlo⟩ := F
  obtain ⟨hK, hP, hD, hS, hL, hSx, hA⟩ := id L
  dsimp only [oDup] at hop
  split at hop
  · cases hop
    exact lv_dup hx hb hd rfl (kk (Nat.le_refl _) ad H locs Ls Ext.rf L)
  · cases hop
    exact lv_dup hx hb hd rfl (kk (Nat.le_refl _) ad H locs Ls Ext.rf L)
  · cases hop
set_option maxHeartbeats 1000000 in
theorem sd_pop {M : MI} {pc : Nat} (hd : decode M.2.1 pc = .ok (.pop, 1)) : Snd M pc (oPop) := by
  intro p l e R s m args below meth c Q D cA A F ad H locs cells slots Ls ls st h ob dc ds cf hop hob hdc hds L kk
  obtain ⟨hx, hb, hml, hown, hts, hin, hfr, hlo⟩ := F
  obtain ⟨hK, hP, hD, hS, hL, hSx, hA⟩ := id L
  dsimp only [oPop] at hop
  split at hop
  · cases hop
    exact lv_pop hx hb hd rfl (kk (Nat.le_refl _) ad H locs Ls Ext.rf L)
  · cases hop
    exact lv_pop hx hb hd rfl (kk (Nat.le_refl _) ad H locs Ls Ext.rf L)
  · cases hop
set_option maxHeartbeats 1000000 in
theorem sd_goto {M : MI} {pc : Nat} {off : Int} {t : Nat} (ht : (pc : Int) + off = (t : Int)) (hd : decode M.2.1 pc = .ok (.goto off, 3)) : Snd M pc (oGoto t) := by
  intro p l e R s m args below meth c Q D cA A F ad H locs cells slots Ls ls st h ob dc ds cf hop hob hdc hds L kk
  obtain ⟨hx, hb, hml, hown, hts, hin, hfr, hlo⟩ := F
  obtain ⟨hK, hP, hD, hS, hL, hSx, hA⟩ := id L
  cases hop
  exact lv_goto hx hb hd ht (kk (Nat.le_refl _) ad H locs Ls Ext.rf L)
set_option maxHeartbeats 1000000 in
theorem sd_if_eq {M : MI} {pc : Nat} {off : Int} {t : Nat} (ht : (pc : Int) + off = (t : Int)) (hd : decode M.2.1 pc = .ok (.ifCond .eq off, 3)) : Snd M pc (oIf 0 t) := by
  intro p l e R s m args below meth c Q D cA A F ad H locs cells slots Ls ls st h ob dc ds cf hop hob hdc hds L kk
  obtain ⟨hx, hb, hml, hown, hts, hin, hfr, hlo⟩ := F
  obtain ⟨hK, hP, hD, hS, hL, hSx, hA⟩ := id L
  dsimp only [oIf] at hop
  split at hop
  · cases hop
    have k9 := kk (Nat.le_refl _) ad H locs Ls Ext.rf L
    dsimp only at k9
    rw [brI_0] at k9
    exact lv_if_eq hx hb hd ht (fun z => by first | (rw [if_pos z] at k9; exact k9) | (rw [if_neg z] at k9; exact k9) | (rw [if_neg (fun q => q z)] at k9; exact k9) | (rw [if_pos (by simpa using z)] at k9; exact k9) | (rw [if_neg (by simpa using z)] at k9; exact k9)) (fun z => by first | (rw [if_pos z] at k9; exact k9) | (rw [if_neg z] at k9; exact k9) | (rw [if_neg (fun q => q z)] at k9; exact k9) | (rw [if_pos (by simpa using z)] at k9; exact k9) | (rw [if_neg (by simpa using z)] at k9; exact k9))
  · cases hop
set_option maxHeartbeats 1000000 in
theorem sd_cmp_eq {M : MI} {pc : Nat} {off : Int} {t : Nat} (ht : (pc : Int) + off = (t : Int)) (hd : decode M.2.1 pc = .ok (.if_icmp .eq off, 3)) : Snd M pc (oCmp 0 t) := by
  intro p l e R s m args below meth c Q D cA A F ad H locs cells slots Ls ls st h ob dc ds cf hop hob hdc hds L kk
  obtain ⟨hx, hb, hml, hown, hts, hin, hfr, hlo⟩ := F
  obtain ⟨hK, hP, hD, hS, hL, hSx, hA⟩ := id L
  dsimp only [oCmp] at hop
  split at hop
  · cases hop
    have k9 := kk (Nat.le_refl _) ad H locs Ls Ext.rf L
    dsimp only at k9
    rw [brI_0] at k9
    exact lv_icmp_eq hx hb hd ht (fun z => by first | (rw [if_pos z] at k9; exact k9) | (rw [if_neg z] at k9; exact k9) | (rw [if_neg (fun q => q z)] at k9; exact k9) | (rw [if_pos (by simpa using z)] at k9; exact k9) | (rw [if_neg (by simpa using z)] at k9; exact k9)) (fun z => by first | (rw [if_pos z] at k9; exact k9) | (rw [if_neg z] at k9; exact k9) | (rw [if_neg (fun q => q z)] at k9; exact k9) | (rw [if_pos (by simpa using z)] at k9; exact k9) | (rw [if_neg (by simpa using z)] at k9; exact k9))
  · cases hop
set_option maxHeartbeats 1000000 in
theorem sd_if_ne {M : MI} {pc : Nat} {off : Int} {t : Nat} (ht : (pc : Int) + off = (t : Int)) (hd : decode M.2.1 pc = .ok (.ifCond .ne off, 3)) : Snd M pc (oIf 1 t) := by
  intro p l e R s m args below meth c Q D cA A F ad H locs cells slots Ls ls st h ob dc ds cf hop hob hdc hds L kk
  obtain ⟨hx, hb, hml, hown, hts, hin, hfr, hlo⟩ := F
  obtain ⟨hK, hP, hD, hS, hL, hSx, hA⟩ := id L
  dsimp only [oIf] at hop
  split at hop
  · cases hop
    have k9 := kk (Nat.le_refl _) ad H locs Ls Ext.rf L
    dsimp only at k9
    rw [brI_1] at k9
    exact lv_if_ne hx hb hd ht (fun z => by first | (rw [if_pos z] at k9; exact k9) | (rw [if_neg z] at k9; exact k9) | (rw [if_neg (fun q => q z)] at k9; exact k9) | (rw [if_pos (by simpa using z)] at k9; exact k9) | (rw [if_neg (by simpa using z)] at k9; exact k9)) (fun z => by first | (rw [if_pos z] at k9; exact k9) | (rw [if_neg z] at k9; exact k9) | (rw [if_neg (fun q => q z)] at k9; exact k9) | (rw [if_pos (by simpa using z)] at k9; exact k9) | (rw [if_neg (by simpa using z)] at k9; exact k9))
  · cases hop
set_option maxHeartbeats 1000000 in
theorem sd_cmp_ne {M : MI} {pc : Nat} {off : Int} {t : Nat} (ht : (pc : Int) + off = (t : Int)) (hd : decode M.2.1 pc = .ok (.if_icmp .ne off, 3)) : Snd M pc (oCmp 1 t) := by
  intro p l e R s m args below meth c Q D cA A F ad H locs cells slots Ls ls st h ob dc ds cf hop hob hdc hds L kk
  obtain ⟨hx, hb, hml, hown, hts, hin, hfr, hlo⟩ := F
  obtain ⟨hK, hP, hD, hS, hL, hSx, hA⟩ := id L
  dsimp only [oCmp] at hop
  split at hop
  · cases hop
    have k9 := kk (Nat.le_refl _) ad H locs Ls Ext.rf L
    dsimp only at k9
    rw [brI_1] at k9
    exact lv_icmp_ne hx hb hd ht (fun z => by first | (rw [if_pos z] at k9; exact k9) | (rw [if_neg z] at k9; exact k9) | (rw [if_neg (fun q => q z)] at k9; exact k9) | (rw [if_pos (by simpa using z)] at k9; exact k9) | (rw [if_neg (by simpa using z)] at k9; exact k9)) (fun z => by first | (rw [if_pos z] at k9; exact k9) | (rw [if_neg z] at k9; exact k9) | (rw [if_neg (fun q => q z)] at k9; exact k9) | (rw [if_pos (by simpa using z)] at k9; exact k9) | (rw [if_neg (by simpa using z)] at k9; exact k9))
  · cases hop
set_option maxHeartbeats 1000000 in
theorem sd_if_lt {M : MI} {pc : Nat} {off : Int} {t : Nat} (ht : (pc : Int) + off = (t : Int)) (hd : decode M.2.1 pc = .ok (.ifCond .lt off, 3)) : Snd M pc (oIf 2 t) := by
  intro p l e R s m args below meth c Q D cA A F ad H locs cells slots Ls ls st h ob dc ds cf hop hob hdc hds L kk
  obtain ⟨hx, hb, hml, hown, hts, hin, hfr, hlo⟩ := F
  obtain ⟨hK, hP, hD, hS, hL, hSx, hA⟩ := id L
  dsimp only [oIf] at hop
  split at hop
  · cases hop
    have k9 := kk (Nat.le_refl _) ad H locs Ls Ext.rf L
    dsimp only at k9
    rw [brI_2] at k9
    exact lv_if_lt hx hb hd ht (fun z => by first | (rw [if_pos z] at k9; exact k9) | (rw [if_neg z] at k9; exact k9) | (rw [if_neg (fun q => q z)] at k9; exact k9) | (rw [if_pos (by simpa using z)] at k9; exact k9) | (rw [if_neg (by simpa using z)] at k9; exact k9)) (fun z => by first | (rw [if_pos z] at k9; exact k9) | (rw [if_neg z] at k9; exact k9) | (rw [if_neg (fun q => q z)] at k9; exact k9) | (rw [if_pos (by simpa using z)] at k9; exact k9) | (rw [if_neg (by simpa using z)] at k9; exact k9))
  · cases hop
set_option maxHeartbeats 1000000 in
theorem sd_cmp_lt {M : MI} {pc : Nat} {off : Int} {t : Nat} (ht : (pc : Int) + off = (t : Int)) (hd : decode M.2.1 pc = .ok (.if_icmp .lt off, 3)) : Snd M pc (oCmp 2 t) := by
  intro p l e R s m args below meth c Q D cA A F ad H locs cells slots Ls ls st h ob dc ds cf hop hob hdc hds L kk
  obtain ⟨hx, hb, hml, hown, hts, hin, hfr, hlo⟩ := F
  obtain ⟨hK, hP, hD, hS, hL, hSx, hA⟩ := id L
  dsimp only [oCmp] at hop
  split at hop
  · cases hop
    have k9 := kk (Nat.le_refl _) ad H locs Ls Ext.rf L
    dsimp only at k9
    rw [brI_2] at k9
    exact lv_icmp_lt hx hb hd ht (fun z => by first | (rw [if_pos z] at k9; exact k9) | (rw [if_neg z] at k9; exact k9) | (rw [if_neg (fun q => q z)] at k9; exact k9) | (rw [if_pos (by simpa using z)] at k9; exact k9) | (rw [if_neg (by simpa using z)] at k9; exact k9)) (fun z => by first | (rw [if_pos z] at k9; exact k9) | (rw [if_neg z] at k9; exact k9) | (rw [if_neg (fun q => q z)] at k9; exact k9) | (rw [if_pos (by simpa using z)] at k9; exact k9) | (rw [if_neg (by simpa using z)] at k9; exact k9))
  · cases hop
set_option maxHeartbeats 1000000 in
theorem sd_if_ge {M : MI} {pc : Nat} {off : Int} {t : Nat} (ht : (pc : Int) + off = (t : Int)) (hd : decode M.2.1 pc = .ok (.ifCond .ge off, 3)) : Snd M pc (oIf 3 t) := by
  intro p l e R s m args below meth c Q D cA A F ad H locs cells slots Ls ls st h ob dc ds cf hop hob hdc hds L kk
  obtain ⟨hx, hb, hml, hown, hts, hin, hfr, hlo⟩ := F
  obtain ⟨hK, hP, hD, hS, hL, hSx, hA⟩ := id L
  dsimp only [oIf] at hop
  split at hop
  · cases hop
    have k9 := kk (Nat.le_refl _) ad H locs Ls Ext.rf L
    dsimp only at k9
    rw [brI_3] at k9
    exact lv_if_ge hx hb hd ht (fun z => by first | (rw [if_pos z] at k9; exact k9) | (rw [if_neg z] at k9; exact k9) | (rw [if_neg (fun q => q z)] at k9; exact k9) | (rw [if_pos (by simpa using z)] at k9; exact k9) | (rw [if_neg (by simpa using z)] at k9; exact k9)) (fun z => by first | (rw [if_pos z] at k9; exact k9) | (rw [if_neg z] at k9; exact k9) | (rw [if_neg (fun q => q z)] at k9; exact k9) | (rw [if_pos (by simpa using z)] at k9; exact k9) | (rw [if_neg (by simpa using z)] at k9; exact k9))
  · cases hop
set_option maxHeartbeats 1000000 in
theorem sd_cmp_ge {M : MI} {pc : Nat} {off : Int} {t : Nat} (ht : (pc : Int) + off = (t : Int)) (hd : decode M.2.1 pc = .ok (.if_icmp .ge off, 3)) : Snd M pc (oCmp 3 t) := by
  intro p l e R s m args below meth c Q D cA A F ad H locs cells slots Ls ls st h ob dc ds cf hop hob hdc hds L kk
  obtain ⟨hx, hb, hml, hown, hts, hin, hfr, hlo⟩ := F
  obtain ⟨hK, hP, hD, hS, hL, hSx, hA⟩ := id L
  dsimp only [oCmp] at hop
  split at hop
  · cases hop
    have k9 := kk (Nat.le_refl _) ad H locs Ls Ext.rf L
    dsimp only at k9
    rw [brI_3] at k9
    exact lv_icmp_ge hx hb hd ht (fun z => by first | (rw [if_pos z] at k9; exact k9) | (rw [if_neg z] at k9; exact k9) | (rw [if_neg (fun q => q z)] at k9; exact k9) | (rw [if_pos (by simpa using z)] at k9; exact k9) | (rw [if_neg (by simpa using z)] at k9; exact k9)) (fun z => by first | (rw [if_pos z] at k9; exact k9) | (rw [if_neg z] at k9; exact k9) | (rw [if_neg (fun q => q z)] at k9; exact k9) | (rw [if_pos (by simpa using z)] at k9; exact k9) | (rw [if_neg (by simpa using z)] at k9; exact k9))
  · cases hop
set_option maxHeartbeats 1000000 in
theorem sd_if_gt {M : MI} {pc : Nat} {off : Int} {t : Nat} (ht : (pc : Int) + off = (t : Int)) (hd : decode M.2.1 pc = .ok (.ifCond .gt off, 3)) : Snd M pc (oIf 4 t) := by
  intro p l e R s m args below meth c Q D cA A F ad H locs cells slots Ls ls st h ob dc ds cf hop hob hdc hds L kk
  obtain ⟨hx, hb, hml, hown, hts, hin, hfr, hlo⟩ := F
  obtain ⟨hK, hP, hD, hS, hL, hSx, hA⟩ := id L
  dsimp only [oIf] at hop
  split at hop
  · cases hop
    have k9 := kk (Nat.le_refl _) ad H locs Ls Ext.rf L
    dsimp only at k9
    rw [brI_4] at k9
    exact lv_if_gt hx hb hd ht (fun z => by first | (rw [if_pos z] at k9; exact k9) | (rw [if_neg z] at k9; exact k9) | (rw [if_neg (fun q => q z)] at k9; exact k9) | (rw [if_pos (by simpa using z)] at k9; exact k9) | (rw [if_neg (by simpa using z)] at k9; exact k9)) (fun z => by first | (rw [if_pos z] at k9; exact k9) | (rw [if_neg z] at k9; exact k9) | (rw [if_neg (fun q => q z)] at k9; exact k9) | (rw [if_pos (by simpa using z)] at k9; exact k9) | (rw [if_neg (by simpa using z)] at k9; exact k9))
  · cases hop
set_option maxHeartbeats 1000000 in
theorem sd_cmp_gt {M : MI} {pc : Nat} {off : Int} {t : Nat} (ht : (pc : Int) + off = (t : Int)) (hd : decode M.2.1 pc = .ok (.if_icmp .gt off, 3)) : Snd M pc (oCmp 4 t) := by
  intro p l e R s m args below meth c Q D cA A F ad H locs cells slots Ls ls st h ob dc ds cf hop hob hdc hds L kk
  obtain ⟨hx, hb, hml, hown, hts, hin, hfr, hlo⟩ := F
  obtain ⟨hK, hP, hD, hS, hL, hSx, hA⟩ := id L
  dsimp only [oCmp] at hop
  split at hop
  · cases hop
    have k9 := kk (Nat.le_refl _) ad H locs Ls Ext.rf L
    dsimp only at k9
    rw [brI_4] at k9
    exact lv_icmp_gt hx hb hd ht (fun z => by first | (rw [if_pos z] at k9; exact k9) | (rw [if_neg z] at k9; exact k9) | (rw [if_neg (fun q => q z)] at k9; exact k9) | (rw [if_pos (by simpa using z)] at k9; exact k9) | (rw [if_neg (by simpa using z)] at k9; exact k9)) (fun z => by first | (rw [if_pos z] at k9; exact k9) | (rw [if_neg z] at k9; exact k9) | (rw [if_neg (fun q => q z)] at k9; exact k9) | (rw [if_pos (by simpa using z)] at k9; exact k9) | (rw [if_neg (by simpa using z)] at k9; exact k9))
  · cases hop
set_option maxHeartbeats 1000000 in
theorem sd_if_le {M : MI} {pc : Nat} {off : Int} {t : Nat} (ht : (pc : Int) + off = (t : Int)) (hd : decode M.2.1 pc = .ok (.ifCond .le off, 3)) : Snd M pc (oIf 5 t) := by
  intro p l e R s m args below meth c Q D cA A F ad H locs cells slots Ls ls st h ob dc ds cf hop hob hdc hds L kk
  obtain ⟨hx, hb, hml, hown, hts, hin, hfr, hlo⟩ := F
  obtain ⟨hK, hP, hD, hS, hL, hSx, hA⟩ := id L
  dsimp only [oIf] at hop
  split at hop
  · cases hop
    have k9 := kk (Nat.le_refl _) ad H locs Ls Ext.rf L
    dsimp only at k9
    rw [brI_5] at k9
    exact lv_if_le hx hb hd ht (fun z => by first | (rw [if_pos z] at k9; exact k9) | (rw [if_neg z] at k9; exact k9) | (rw [if_neg (fun q => q z)] at k9; exact k9) | (rw [if_pos (by simpa using z)] at k9; exact k9) | (rw [if_neg (by simpa using z)] at k9; exact k9)) (fun z => by first | (rw [if_pos z] at k9; exact k9) | (rw [if_neg z] at k9; exact k9) | (rw [if_neg (fun q => q z)] at k9; exact k9) | (rw [if_pos (by simpa using z)] at k9; exact k9) | (rw [if_neg (by simpa using z)] at k9; exact k9))
  · cases hop
set_option maxHeartbeats 1000000 in
theorem sd_cmp_le {M : MI} {pc : Nat} {off : Int} {t : Nat} (ht : (pc : Int) + off = (t : Int)) (hd : decode M.2.1 pc = .ok (.if_icmp .le off, 3)) : Snd M pc (oCmp 5 t) := by
  intro p l e R s m args below meth c Q D cA A F ad H locs cells slots Ls ls st h ob dc ds cf hop hob hdc hds L kk
  obtain ⟨hx, hb, hml, hown, hts, hin, hfr, hlo⟩ := F
  obtain ⟨hK, hP, hD, hS, hL, hSx, hA⟩ := id L
  dsimp only [oCmp] at hop
  split at hop
  · cases hop
    have k9 := kk (Nat.le_refl _) ad H locs Ls Ext.rf L
    dsimp only at k9
    rw [brI_5] at k9
    exact lv_icmp_le hx hb hd ht (fun z => by first | (rw [if_pos z] at k9; exact k9) | (rw [if_neg z] at k9; exact k9) | (rw [if_neg (fun q => q z)] at k9; exact k9) | (rw [if_pos (by simpa using z)] at k9; exact k9) | (rw [if_neg (by simpa using z)] at k9; exact k9)) (fun z => by first | (rw [if_pos z] at k9; exact k9) | (rw [if_neg z] at k9; exact k9) | (rw [if_neg (fun q => q z)] at k9; exact k9) | (rw [if_pos (by simpa using z)] at k9; exact k9) | (rw [if_neg (by simpa using z)] at k9; exact k9))
  · cases hop
set_option maxHeartbeats 1000000 in
theorem sd_ifnull {M : MI} {pc : Nat} {off : Int} {t : Nat} (ht : (pc : Int) + off = (t : Int)) (hd : decode M.2.1 pc = .ok (.ifnull off, 3)) : Snd M pc (oNull t) := by
  intro p l e R s m args below meth c Q D cA A F ad H locs cells slots Ls ls st h ob dc ds cf hop hob hdc hds L kk
  obtain ⟨hx, hb, hml, hown, hts, hin, hfr, hlo⟩ := F
  obtain ⟨hK, hP, hD, hS, hL, hSx, hA⟩ := id L
  dsimp only [oNull] at hop
  split at hop
  · cases hop
    exact lv_ifnullN hx hb hd ht (kk (Nat.le_refl _) ad H locs Ls Ext.rf L)
  · cases hop
    exact lv_ifnull hx hb hd (kk (Nat.le_refl _) ad H locs Ls Ext.rf L)
  · cases hop
set_option maxHeartbeats 1000000 in
theorem sd_ifnonnull {M : MI} {pc : Nat} {off : Int} {t : Nat} (ht : (pc : Int) + off = (t : Int)) (hd : decode M.2.1 pc = .ok (.ifnonnull off, 3)) : Snd M pc (oNonnull t) := by
  intro p l e R s m args below meth c Q D cA A F ad H locs cells slots Ls ls st h ob dc ds cf hop hob hdc hds L kk
  obtain ⟨hx, hb, hml, hown, hts, hin, hfr, hlo⟩ := F
  obtain ⟨hK, hP, hD, hS, hL, hSx, hA⟩ := id L
  dsimp only [oNonnull] at hop
  split at hop
  · cases hop
    exact lv_ifnonnullN hx hb hd (kk (Nat.le_refl _) ad H locs Ls Ext.rf L)
  · cases hop
    exact lv_ifnonnull hx hb hd ht (kk (Nat.le_refl _) ad H locs Ls Ext.rf L)
  · cases hop
