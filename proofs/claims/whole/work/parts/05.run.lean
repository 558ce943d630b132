/-! ===== RUNS of the pure machine, and what they say of the machine ===== -/
def Nx (U : State) : Prop := ∀ w ∈ lw_U, extraW w = true → w.before #[] U = true
theorem Nx.warm {s U : State} (hW : s.WarmedH U.vm) (h : Nx s) : Nx U := by
  intro w hw hx
  have h0 := h w hw hx
  cases w <;> try (cases hx; done)
  · exact va_Nw.warmM hW h0
  · exact va_Nw.warmC hW h0
  · next ty =>
    cases ty <;> try (cases hx; done)
    exact va_AO.moved hW.alike h0
theorem Nx.same {s U : State} (hv : s.vm = U.vm) (h : Nx s) : Nx U := by
  intro w hw hx
  have h0 := h w hw hx
  cases w <;> try (cases hx; done)
  · exact va_Nw.same rfl hv h0
  · exact va_Nw.same rfl hv h0
  · next ty =>
    cases ty <;> try (cases hx; done)
    exact va_AO.moved (by rw [hv]; exact Vm.Alike.refl _) h0
theorem Nx.all {s : State} {args : Array Value} (h : Nx s) (hg : ∀ w ∈ lw_tbl.filter goodWord, w.before args s = true) : ∀ w ∈ lw_U, w.before args s = true := by
  intro w hw
  have hm := List.mem_filter.mp hw
  cases hgw : goodWord w with
  | true => exact hg w (List.mem_filter.mpr ⟨hm.1, hgw⟩)
  | false =>
    have hx : extraW w = true := by simpa [hgw] using hm.2
    have h0 := h w hw hx
    cases w <;> try (cases hx; done)
    · exact va_Nw.use rfl h0
    · exact va_Nw.use rfl h0
    · next ty =>
      cases ty <;> try (cases hx; done)
      exact va_AO.use h0
theorem Sx.same {ad : Nat → Nat} {A : Nat → Prop} {s U : State} {H : Heap} (hv : U.vm = s.vm) (h : Sx ad A s H) : Sx ad A U H := by
  have hal : s.vm.Alike U.vm := by rw [hv]; exact Vm.Alike.refl _
  exact ⟨h.1.moved hal, fun i q hq => vk_R.same hv (h.2.1 i q hq), h.2.2.1.moved hal, h.2.2.2.1.moved hal, h.2.2.2.2.1.moved hal, h.2.2.2.2.2.moved hal⟩
theorem Sx.warm {ad : Nat → Nat} {A : Nat → Prop} {s U : State} {H : Heap} (hW : s.WarmedH U.vm) (h : Sx ad A s H) : Sx ad A U H :=
  ⟨h.1.moved hW.alike, fun i q hq => vk_R.warm hW (h.2.1 i q hq), h.2.2.1.moved hW.alike, h.2.2.2.1.moved hW.alike, h.2.2.2.2.1.moved hW.alike, h.2.2.2.2.2.moved hW.alike⟩
theorem Sx.kept {ad : Nat → Nat} {A : Nat → Prop} {s : State} {H H1 : Heap} (h : Sx ad A s H) (hq : ∀ a : Nat, a < H.size → ¬ A a → H1[a]? = H[a]?) : Sx ad A s H1 :=
  ⟨h.1.kept hq, h.2.1, h.2.2.1.kept hq, h.2.2.2.1.kept hq, h.2.2.2.2.1.kept hq, h.2.2.2.2.2.kept hq⟩
theorem Sx.narrow {ad : Nat → Nat} {A B : Nat → Prop} {s : State} {H : Heap} (h : Sx ad A s H) (hAB : ∀ q, B q → A q) : Sx ad B s H :=
  ⟨h.1.narrow hAB, h.2.1, h.2.2.1.narrow hAB, h.2.2.2.1.narrow hAB, h.2.2.2.2.1.narrow hAB, h.2.2.2.2.2.narrow hAB⟩
def rmD (d mc ms : Nat) : Room := { frames := d + 1, cells := mc, slots := ms, locals := 60 * (d + 1) }
def wsM (M : MI) : List Cond := .code M.1 M.2.1 M.2.2.1 M.2.2.2.1 :: lw_tbl.filter goodWord
def Good (M : MI) : Prop := plainName M.1.cls = true ∧ Cond.code M.1 M.2.1 M.2.2.1 M.2.2.2.1 ∈ lw_tbl ∧ Cond.initialized M.1.cls ∈ lw_tbl ∧ (M.1.cls ≠ "java/lang/invoke/MethodHandle" ∧ M.1.cls ≠ "java/lang/invoke/VarHandle") ∧ M.2.2.1 ≤ 40 ∧ ∀ q ∈ M.2.2.2.2, Snd M q.1 q.2
/-- the end of a method: what it answers -/
def RetAt (M : MI) (pc : Nat) (st : List Value) (r : Option Value) : Prop :=
  (decode M.2.1 pc = .ok (.ireturn, 1) ∧ ∃ (v : Int32) (ty : FieldType), st = [.int v] ∧ M.2.2.2.1 = some ty ∧ narrow ty (.int v) = .int v ∧ r = some (.int v)) ∨
  (decode M.2.1 pc = .ok (.lreturn, 1) ∧ ∃ v : Int64, st = [.long v] ∧ M.2.2.2.1 = some .long ∧ r = some (.long v)) ∨
  (decode M.2.1 pc = .ok (.areturn, 1) ∧ ∃ (v : Value) (rt : FieldType), st = [v] ∧ M.2.2.2.1 = some rt ∧ ((∃ n, rt = .object n) ∨ ∃ t, rt = .array t) ∧ (v = .null ∨ ∃ a, v = .ref a) ∧ r = some v) ∨
  (decode M.2.1 pc = .ok (.return_, 1) ∧ st = [] ∧ M.2.2.2.1 = none ∧ r = none)
/-- a call stands there: 0 of an object's method, 1 static, 2 a constructor, 3 a nest mate's constructor -/
def CallAt (M : MI) (pc kind : Nat) (M' : MI) (n : Nat) : Prop :=
  (parseMethodDescriptor M'.1.desc).map (fun d => d.parameters.length) = some n ∧ match kind with
  | 0 => ∃ i, decode M.2.1 pc = .ok (.invokevirtual i, 3) ∧ Cond.methodLink M.1.cls i M'.1 ∈ lw_U ∧ Cond.instanceMethod M'.1 ∈ lw_U ∧ Cond.selects M'.1.cls M'.1 M'.1 ∈ lw_U
  | 1 => ∃ i, decode M.2.1 pc = .ok (.invokestatic i, 3) ∧ Cond.methodLink M.1.cls i M'.1 ∈ lw_U ∧ Cond.static M'.1 ∈ lw_U
  | 2 => ∃ i, decode M.2.1 pc = .ok (.invokespecial i, 3) ∧ Cond.methodLink M.1.cls i M'.1 ∈ lw_U ∧ Cond.instanceMethod M'.1 ∈ lw_U ∧ M'.1.name = "<init>" ∧ M'.2.2.2.1 = none
  | _ => ∃ i host, decode M.2.1 pc = .ok (.invokespecial i, 3) ∧ Cond.methodLinkNest M.1.cls i M'.1 host ∈ lw_U ∧ Cond.instanceMethod M'.1 ∈ lw_U ∧ M'.1.name = "<init>" ∧ M'.2.2.2.1 = none
def ent : Nat → List Value → List (Option Value)
  | n, [] => List.replicate n none
  | n, v :: vs => match v with
    | .long x => some (.long x) :: none :: ent (n - 2) vs
    | .double x => some (.double x) :: none :: ent (n - 2) vs
    | v => some v :: ent (n - 1) vs
def wkL : List (Option Value) → List (Option Value) → Prop
  | [], [] => True
  | a :: s, b :: t => (b = none ∨ b = a) ∧ wkL s t
  | _, _ => False
theorem wkL.get {a b : List (Option Value)} (h : wkL a b) : b.length = a.length ∧ ∀ (i : Nat) (v : Value), b[i]? = some (some v) → a[i]? = some (some v) := by
  induction a generalizing b with
  | nil => cases b with
    | nil => exact ⟨rfl, fun i v hv => hv⟩
    | cons => exact h.elim
  | cons x s ih => cases b with
    | nil => exact h.elim
    | cons y t =>
      obtain ⟨h1, h2⟩ := h
      obtain ⟨g1, g2⟩ := ih h2
      refine ⟨by simp [g1], fun i v hv => ?_⟩
      cases i with
      | zero =>
        simp only [List.getElem?_cons_zero, Option.some.injEq] at hv ⊢
        rcases h1 with h1 | h1
        · rw [h1] at hv; cases hv
        · rw [← h1]; exact hv
      | succ i =>
        simp only [List.getElem?_cons_succ] at hv ⊢
        exact g2 i v hv
def P0 (d mc ms : Nat) (M : MI) (cf : CF) (Q : Option Value → PH → Prop) : Prop :=
  ∀ d' : Nat, d ≤ d' → ∀ (p : Program) (l : Launch) (e : Env) (s : State) (m : MethodId) (args : Array Value) (below : List Frame) (meth : Method) (c : Code) (D : va_G) (cA : Nat → ClassId) (A : Nat → Prop) (MC MS : Nat) (Qc : Array Value → State → Outcome → State → Prop),
    Fx M p (rmD d' MC MS) s m args meth c → meth.sig.returnType = M.2.2.2.1 → meth.locks = false → Nx s →
    ∀ (ad : Nat → Nat) (H : Heap) (locs : List Loc) (cells slots : Nat) (Ls : Array Slot), cells + mc ≤ MC → slots + ms ≤ MS → Rl D cA A s M.2.2.1 ad H locs Ls cf.2.1 cf.2.2.2 →
    (∀ (r : Option Value) (h' : PH) (ad' : Nat → Nat) (H' : Heap) (locs' : List Loc), Q r h' → cf.2.2.2.length ≤ h'.length → Ext ad ad' cf.2.2.2.length h'.length → va_P D vwCl (wd ad' cA h') H' → va_D A (wd ad' cA h') → va_S A s.heap H' locs' →
      ∀ t : State, t.heap = H' → s.WarmedH t.vm → Qc args s (.returned (r.map (trV ad'))) t) →
    W p l e (rmD d' MC MS) s m args below meth c H locs cells slots (MQ below Qc args s MC MS A) (F0 m cf.1 Ls (cf.2.2.1.map (trV ad)))
theorem Ext.trans {a b c : Nat → Nat} {n n1 n2 : Nat} (h1 : Ext a b n n1) (h2 : Ext b c n1 n2) (hn : n ≤ n1) (hm : n1 ≤ n2) : Ext a c n n2 := by
  intro k hk
  rcases hk with hk | hk
  · rw [h2 k (Or.inl (by omega)), h1 k (Or.inl hk)]
  · rw [h2 k (Or.inr hk), h1 k (Or.inr (by omega))]
theorem P0.mono {d d1 mc mc1 ms ms1 : Nat} {M : MI} {cf : CF} {Q Q1 : Option Value → PH → Prop} (h : P0 d mc ms M cf Q) (hd : d ≤ d1) (hc : mc ≤ mc1) (hs : ms ≤ ms1) (hQ : ∀ r h', Q r h' → Q1 r h') : P0 d1 mc1 ms1 M cf Q1 := by
  intro d' hd' p l e s m args below meth c D cA A MC MS Qc F hr hlk hN ad H locs cells slots Ls h1 h2 L k
  exact h d' (Nat.le_trans hd hd') p l e s m args below meth c D cA A MC MS Qc F hr hlk hN ad H locs cells slots Ls (by omega) (by omega) L (fun r h' ad' H' locs' q => k r h' ad' H' locs' (hQ r h' q))
theorem P0.run {d mc ms dc ds : Nat} {M : MI} {cf cf' : CF} {Q : Option Value → PH → Prop} {op : POp} {ob : List Prop} (hG : Good M) (hl : lk M.2.2.2.2 cf.1 = some op) (ho : op cf = some (ob, dc, ds, cf')) (hob : AllP ob) (h : P0 d mc ms M cf' Q) : P0 d (mc + dc) (ms + ds) M cf Q := by
  intro d' hd' p l e s m args below meth c D cA A MC MS Qc F hr hlk hN ad H locs cells slots Ls h1 h2 L k
  obtain ⟨pc, ls, st, hh⟩ := cf
  refine hG.2.2.2.2.2 _ (lk_mem hl) p l e (rmD d' MC MS) s m args below meth c _ D cA A F ad H locs cells slots Ls ls st hh ob dc ds cf' ho hob (by show cells + dc ≤ MC; omega) (by show slots + ds ≤ MS; omega) L ?_
  intro hlen ad' H' locs' Ls' hE L'
  exact h d' hd' p l e s m args below meth c D cA A MC MS Qc F hr hlk hN ad' H' locs' _ _ Ls' (by omega) (by omega) L' (fun r h' ad2 H2 locs2 q hlen2 hE2 => k r h' ad2 H2 locs2 q (Nat.le_trans hlen hlen2) (hE.trans hE2 hlen hlen2))
theorem P0.forget {d mc ms : Nat} {M : MI} {pc : Nat} {ls ls' : List (Option Value)} {st : List Value} {hh : PH} {Q : Option Value → PH → Prop} (hw : wkL ls ls') (h : P0 d mc ms M (pc, ls', st, hh) Q) : P0 d mc ms M (pc, ls, st, hh) Q := by
  intro d' hd' p l e s m args below meth c D cA A MC MS Qc F hr hlk hN ad H locs cells slots Ls h1 h2 L k
  obtain ⟨hK, hP, hD, hS, hL, hSx, hA⟩ := L
  obtain ⟨g1, g2⟩ := hw.get
  exact h d' hd' p l e s m args below meth c D cA A MC MS Qc F hr hlk hN ad H locs cells slots Ls h1 h2 ⟨hK, hP, hD, hS, ⟨g1.trans hL.1, hL.2.1, hL.2.2.1, fun i v hv => hL.2.2.2 i v (g2 i v hv)⟩, hSx, hA⟩ k
theorem P0.ret {d : Nat} {M : MI} {cf : CF} {Q : Option Value → PH → Prop} {r : Option Value} (hr0 : RetAt M cf.1 cf.2.2.1 r) (hQ : Q r cf.2.2.2) : P0 d 0 0 M cf Q := by
  intro d' hd' p l e s m args below meth c D cA A MC MS Qc F hr hlk hN ad H locs cells slots Ls h1 h2 L k
  obtain ⟨pc, ls, st, hh⟩ := cf
  dsimp only at hr0 hQ k L ⊢
  obtain ⟨hx, hb, hml, hown, hts, hin, hfr, hlo⟩ := F
  obtain ⟨hK, hP, hD, hS, hL, hSx, hA⟩ := L
  refine W.widen (k := MC) (n := MS) (by omega) (by omega) ?_
  have kq := k r hh ad H locs hQ (Nat.le_refl _) Ext.rf hP hD hS
  rcases hr0 with ⟨hd, v, ty, rfl, e2, e3, rfl⟩ | ⟨hd, v, rfl, e2, rfl⟩ | ⟨hd, v, rt, rfl, e2, e3, e4, rfl⟩ | ⟨hd, rfl, e2, rfl⟩
  · exact W.zret hx hb (hr.trans e2) e3 kq hS.2.2 hd hlk
  · exact W.lret hx hb (hr.trans e2) kq hS.2.2 hd hlk
  · refine W.aret (v := trV ad v) hx hb (hr.trans e2) e3 ?_ kq hS.2.2 hd hlk
    rcases e4 with rfl | ⟨a, rfl⟩
    · exact Or.inl rfl
    · exact Or.inr ⟨_, rfl⟩
  · exact W.vret hx hb (hr.trans e2) kq hS.2.2 hd hlk
/-! calls -/
theorem lv_args_ent (ad : Nat → Nat) : ∀ (vs : List Value) (n k i : Nat) (v : Value), (ent n vs)[i]? = some (some v) → (k + i, trV ad v) ∈ lv_args k (vs.map (trV ad))
  | [], n, k, i, v, h => by
    simp only [ent, List.getElem?_replicate] at h
    split at h <;> cases h
  | w :: vs, n, k, i, v, h => by
    simp only [List.map_cons, lv_args]
    have two : (∀ n', ent n' vs = ent n' vs) := fun _ => rfl
    by_cases hc : w.category = 2
    · have he : ent n (w :: vs) = some w :: none :: ent (n - 2) vs := by
        cases w <;> first | rfl | (exfalso; simp [Value.category] at hc)
      rw [he] at h
      rw [if_pos (by rw [trV_cat]; exact hc)]
      match i, h with
      | 0, h => cases h; exact List.mem_cons_self
      | 1, h => cases h
      | i + 2, h =>
        have := lv_args_ent ad vs (n - 2) (k + 2) i v (by simpa using h)
        rw [show k + 2 + i = k + (i + 2) by omega] at this
        exact List.mem_cons_of_mem _ this
    · have he : ent n (w :: vs) = some w :: ent (n - 1) vs := by
        cases w <;> first | rfl | (exfalso; simp [Value.category] at hc)
      rw [he] at h
      rw [if_neg (by rw [trV_cat]; exact hc)]
      match i, h with
      | 0, h => cases h; exact List.mem_cons_self
      | i + 1, h =>
        have := lv_args_ent ad vs (n - 1) (k + 1) i v (by simpa using h)
        rw [show k + 1 + i = k + (i + 1) by omega] at this
        exact List.mem_cons_of_mem _ this
theorem lg_sl_len (ad : Nat → Nat) (vs : List Value) : (lg_sl (vs.map (trV ad))).length = sumc vs := by
  induction vs with
  | nil => rfl
  | cons v t ih =>
    simp only [List.map_cons, lg_sl, List.flatMap_cons, List.length_append, sumc] at ih ⊢
    rw [ih]
    cases v <;> rfl
theorem ent_len : ∀ (vs : List Value) (n : Nat), sumc vs ≤ n → (ent n vs).length = n
  | [], n, _ => by simp [ent]
  | w :: vs, n, h => by
    simp only [sumc] at h
    cases w <;> simp only [ent, Value.category, List.length_cons] at h ⊢ <;> rw [ent_len vs _ (by omega)] <;> omega
def PcM (D : va_G) (cA : Nat → ClassId) (ad : Nat → Nat) (sz : Nat) (h : PH) (as : List Value) : Array Value → State → Prop :=
  va_Pc (as.map (trV ad)) (fun U => U.heap.size = sz ∧ va_P D vwCl (wd ad cA h) U.heap ∧ va_K D vwCl (tysF cA) U ∧ va_D (fun _ => True) (wd ad cA h) ∧ Sx ad (va_A (wd ad cA h) sz) U U.heap ∧ Nx U)
def QcM (D : va_G) (cA : Nat → ClassId) (ad : Nat → Nat) (sz : Nat) (h : PH) (Q : Option Value → PH → Prop) : Array Value → State → Outcome → State → Prop :=
  fun _ st oc t => ∃ (r : Option Value) (h' : PH) (ad' : Nat → Nat), oc = .returned (r.map (trV ad')) ∧ Q r h' ∧ h.length ≤ h'.length ∧ Ext ad ad' h.length h'.length ∧ va_P D vwCl (wd ad' cA h') t.heap ∧ va_D (va_A (wd ad cA h) sz) (wd ad' cA h') ∧ va_F (va_A (wd ad cA h) sz) st t
theorem P0.met {d mc ms : Nat} {M : MI} {as : List Value} {h : PH} {Q : Option Value → PH → Prop} (hG : Good M) (hs : sumc as ≤ M.2.2.1) (hp : P0 d mc ms M (0, ent M.2.2.1 as, [], h) Q) {d' : Nat} (hd : d ≤ d') (l : Launch) (D : va_G) (cA : Nat → ClassId) (ad : Nat → Nat) (sz : Nat) :
    Met l M.1 (wsM M) (rmD d' mc ms) (PcM D cA ad sz h as) (QcM D cA ad sz h Q) mc ms (va_A (wd ad cA h) sz) := by
  refine Met.ofW (cc := M.2.1) (maxL := M.2.2.1) (ret := M.2.2.2.1) hG.1 rfl ?_
  intro p e s m args below meth c s₁ B hml hv
  obtain ⟨rfl, hsz, hP, hK, hD0, hSx, hN⟩ := hv
  have hx := B.exec
  have hb := B.bytes
  have hr := B.returns
  have hts0 := atoms_spec (ws := wsM M) B.pre
  have hts := hN.all (args := (as.map (trV ad)).toArray) (fun w hw => hts0 w (List.mem_cons_of_mem _ hw))
  have hown : s.vm.findClass M.1.cls = some m.cls := findClass_of_methodNamed B.named
  have hlocks := B.notSynchronized
  subst hsz
  have hD := hD0.self (sz := s.heap.size)
  have hA : ∀ q : Nat, s.heap.size ≤ q → va_A (wd ad cA h) s.heap.size q := fun q h => Or.inr h
  have hS : va_S (va_A (wd ad cA h) s.heap.size) s.heap s.heap [] := va_S.rf
  have hl := lv_entry (as.map (trV ad)) (n := M.2.2.1) (by rw [lg_sl_len]; exact hs)
  rw [lg_entry_eq]
  generalize (lg_sl (as.map (trV ad)) ++ List.replicate (M.2.2.1 - (lg_sl (as.map (trV ad))).length) Slot.unset).toArray = Ls at hl ⊢
  have hL : LR ad M.2.2.1 Ls (ent M.2.2.1 as) := by
    refine ⟨ent_len as _ hs, hl.1, hl.2.1, fun i v hv => ?_⟩
    have := hl.2.2 _ (lv_args_ent ad as _ 0 i v hv)
    rw [Nat.zero_add] at this
    exact this
  exact hp d' hd p l e s m _ below meth c D cA _ mc ms _ ⟨hx, hb, hml, hown, hts, fun hi => (name_of_methodNamed B.named B.method).1.trans hi, Nat.succ_le_succ (Nat.zero_le _), by show 60 ≤ 60 * (d' + 1); omega⟩ hr hlocks hN ad s.heap [] 0 0 Ls (by omega) (by omega) ⟨hK, hP, hD, hS, hL, hSx, hA⟩
    (fun r h' ad' H' locs' q hlen hE hP' hD' hS' t ht hW => ⟨r, h', ad', rfl, q, hlen, hE, by rw [ht]; exact hP', hD', hS'.F ht⟩)
