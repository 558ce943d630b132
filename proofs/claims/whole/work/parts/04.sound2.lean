/-! ===== SOUNDNESS of the instructions on cells ===== -/
-- constants outside of the heap
def oStrVal : POp := fun ⟨pc, ls, st, h⟩ => match st with
  | .ref a :: st => bif Nat.ble sB a && Nat.blt a (sB + 13) then some ([], 0, 0, (pc + 3, ls, .ref (a + 100) :: st, h)) else none
  | _ => none
def oStrCod : POp := fun ⟨pc, ls, st, h⟩ => match st with
  | .ref a :: st => bif Nat.ble sB a && Nat.blt a (sB + 13) then some ([], 0, 0, (pc + 3, ls, .int 0 :: st, h)) else none
  | _ => none
def oStrLen : POp := fun ⟨pc, ls, st, h⟩ => match st with
  | .ref a :: st => bif Nat.ble (sB + 100) a && Nat.blt a (sB + 113) then some ([], 0, 0, (pc + 1, ls, .int (Int32.ofNat (strN.getD (a - (sB + 100)) 0)) :: st, h)) else none
  | _ => none
def oStrLd : POp := fun ⟨pc, ls, st, h⟩ => match st with
  | .int i :: .ref a :: st => bif Nat.ble (sB + 100) a && Nat.blt a (sB + 113) then some ([vp_in i (strN.getD (a - (sB + 100)) 0)], 0, 0, (pc + 1, ls, .int ((strB.getD (a - (sB + 100)) []).getD i.toNatClampNeg 0) :: st, h)) else none
  | _ => none
def oUndLen : POp := fun ⟨pc, ls, st, h⟩ => match st with
  | .ref a :: st => bif Nat.beq a (sB + 200) then some ([], 0, 0, (pc + 1, ls, .int 6 :: st, h)) else none
  | _ => none
def oUndLd : POp := fun ⟨pc, ls, st, h⟩ => match st with
  | .int i :: .ref a :: st => bif Nat.beq a (sB + 200) then some ([vp_in i 6], 0, 0, (pc + 1, ls, .int (undF i.toNatClampNeg) :: st, h)) else none
  | _ => none
theorem three {k : Nat} (h1 : 2 ≤ k) (h2 : k < 5) : k = 2 ∨ k = 3 ∨ k = 4 := by omega
theorem trV_ref (ad : Nat → Nat) (k : Nat) : trV ad (.ref k) = .ref (ad k) := rfl
theorem trE_obj {ad : Nat → Nat} {cA : Nat → ClassId} {h : PH} {a ci : Nat} {fs : List Value} (k : Nat) (v : Value) : (wd ad cA h).set a (ad a, .inr (ci, (fs.map (trV ad)).set k (trV ad v))) = wd ad cA (h.set a (.inr (ci, fs.set k v))) := by
  rw [← wd_set]
  simp [trE, List.map_set]
theorem wd_obj {ad : Nat → Nat} {cA : Nat → ClassId} {h : PH} {a ci : Nat} {fs : List Value} (hk : lg h a = some (.inr (ci, fs))) : (wd ad cA h)[a]? = some (ad a, .inr (ci, fs.map (trV ad))) := wd_at hk
theorem wd_int {ad : Nat → Nat} {cA : Nat → ClassId} {h : PH} {a k n : Nat} {f : Nat → Int32} (hk : lg h a = some (.inl (k, n, .inl f))) : (wd ad cA h)[a]? = some (ad a, .inl (cA k, n, .inl f)) := wd_at hk
theorem wd_ref {ad : Nat → Nat} {cA : Nat → ClassId} {h : PH} {a k n : Nat} {f : Nat → Option Nat} (hk : lg h a = some (.inl (k, n, .inr (.inr (.inr (.inr f)))))) : (wd ad cA h)[a]? = some (ad a, .inl (cA k, n, .inr (.inr (.inr (.inr (fun j => (f j).map ad)))))) := wd_at hk
theorem wd_setI (ad : Nat → Nat) (cA : Nat → ClassId) (h : PH) (a k n : Nat) (f : Nat → Int32) : (wd ad cA h).set a (ad a, .inl (cA k, n, .inl f)) = wd ad cA (h.set a (.inl (k, n, .inl f))) := wd_set ad cA h a (.inl (k, n, .inl f))
theorem lg_map {ad : Nat → Nat} {fs : List Value} {k : Nat} {v : Value} (h : lg fs k = some v) : (fs.map (trV ad))[k]? = some (trV ad v) := by
  rw [List.getElem?_map, ← lg_eq, h]; rfl
theorem trV_rf (ad : Nat → Nat) (r : Option Nat) : trV ad (va_rf r) = va_rf (r.map ad) := by cases r <;> rfl
theorem tys_at (cA : Nat → ClassId) {k : Nat} (h : k < 5) : ∃ ty, (tysF cA)[k]? = some (cA k, ty) := by
  match k, h with
  | 0, _ => exact ⟨_, rfl⟩
  | 1, _ => exact ⟨_, rfl⟩
  | 2, _ => exact ⟨_, rfl⟩
  | 3, _ => exact ⟨_, rfl⟩
  | 4, _ => exact ⟨_, rfl⟩
def upA (ad : Nat → Nat) (n q : Nat) : Nat → Nat := fun k => if k = n then q else ad k
theorem upA_lt {ad : Nat → Nat} {n q k : Nat} (h : k < n ∨ sB ≤ k) (hn : n < sB) : upA ad n q k = ad k := by
  unfold upA
  rw [if_neg]
  intro e
  rcases h with h | h <;> omega
theorem upA_self (ad : Nat → Nat) (n q : Nat) : upA ad n q n = q := if_pos rfl
theorem trV_up {ad : Nat → Nat} {n q : Nat} {v : Value} (hn : n < sB) (h : wfV n v) : trV (upA ad n q) v = trV ad v := by
  cases v <;> try rfl
  exact congrArg Value.ref (upA_lt h hn)
theorem trE_up {ad : Nat → Nat} {cA : Nat → ClassId} {n q : Nat} {e : va_E} (hn : n < sB) (h : wfE n e) : trE (upA ad n q) cA e = trE ad cA e := by
  rcases e with ⟨k, m, f | f | f | f | f⟩ | ⟨ci, fs⟩ <;> try rfl
  · simp only [trE]
    congr 8
    funext j
    cases hj : f j with
    | none => rfl
    | some y => exact congrArg some (upA_lt (h j y hj) hn)
  · simp only [trE]
    congr 2
    exact List.map_congr_left (fun v hv => trV_up hn (h v hv))
theorem wd_up {ad : Nat → Nat} {cA : Nat → ClassId} {h : PH} {q : Nat} (hn : h.length < sB) (hw : ∀ e ∈ h, wfE h.length e) : wd (upA ad h.length q) cA h = wd ad cA h := by
  apply List.ext_getElem?
  intro i
  rw [wd_get, wd_get]
  cases hi : h[i]? with
  | none => rfl
  | some e =>
    have hl := (List.getElem?_eq_some_iff.mp hi).1
    simp only [Option.map_some]
    rw [trE_up hn (hw e (List.mem_of_getElem? hi)), upA_lt (Or.inl hl) hn]
theorem st_up {ad : Nat → Nat} {n q : Nat} {st : List Value} (hn : n < sB) (hw : ∀ v ∈ st, wfV n v) : st.map (trV (upA ad n q)) = st.map (trV ad) := List.map_congr_left (fun v hv => trV_up hn (hw v hv))
theorem LR.up {ad : Nat → Nat} {nL n q : Nat} {Ls : Array Slot} {ls : List (Option Value)} (h : LR ad nL Ls ls) (hn : n < sB) (hw : ∀ o ∈ ls, ∀ v, o = some v → wfV n v) : LR (upA ad n q) nL Ls ls := by
  refine ⟨h.1, h.2.1, h.2.2.1, fun i v hi => ?_⟩
  rw [trV_up hn (hw _ (List.mem_of_getElem? hi) v rfl)]
  exact h.2.2.2 i v hi
theorem Sx.ext {ad ad' : Nat → Nat} {A : Nat → Prop} {s : State} {H : Heap} (h : Sx ad A s H) (he : ∀ k, sB ≤ k → ad' k = ad k) : Sx ad' A s H := by
  unfold Sx at h ⊢
  simp only [he _ (Nat.le_add_right sB _), he _ (Nat.le_trans (Nat.le_add_right sB 100) (Nat.le_add_right (sB + 100) _))]
  exact h
theorem Ext.up {ad : Nat → Nat} {n q : Nat} : Ext ad (upA ad n q) n (n + 1) := by
  intro k hk
  unfold upA
  rw [if_neg (by omega)]

set_option maxHeartbeats 1000000 in
theorem sd_get {M : MI} {pc : Nat} {C : String} {T : u_T} {N ci k index : Nat} (hc : vwCl[ci]? = some (C, T, N)) (hin0 : ∀ w ∈ u_ws C T N, w ∈ lw_U) (hk : k < N) (hlink : Cond.fieldLink M.1.cls index (T k).1 (T k).2.1 (T k).2.2.1 ∈ lw_U) (hd : decode M.2.1 pc = .ok (.getfield index, 3)) : Snd M pc (oGet ci k) := by
  intro p l e R s m args below meth c Q D cA A F ad H locs cells slots Ls ls st h ob dc ds cf hop hob hdc hds L kk
  obtain ⟨hx, hb, hml, hown, hts, hin, hfr, hlo⟩ := F
  obtain ⟨hK, hP, hD, hS, hL, hSx, hA⟩ := id L
  dsimp only [oGet] at hop
  split at hop
  · next a st0 =>
    split at hop
    · next c0 fs hx2 =>
      cases ho : Nat.beq c0 ci with
      | false => rw [ho] at hop; cases hop
      | true =>
        rw [ho] at hop
        have e0 := Nat.eq_of_beq_eq_true ho
        subst e0
        dsimp only [cond] at hop
        split at hop
        · next v hv =>
          cases hop
          exact va_get hx hb hts hin0 hown hK hP a (wd_obj hx2) hc k hk (hts _ hlink) (fun _ h9 => h9) (lg_map hv) hd (kk (Nat.le_refl _) ad H locs Ls Ext.rf L)
        · cases hop
    · cases hop
  · cases hop
set_option maxHeartbeats 1000000 in
theorem sd_putI {M : MI} {pc : Nat} {C : String} {T : u_T} {N ci k index : Nat} (hc : vwCl[ci]? = some (C, T, N)) (hin0 : ∀ w ∈ u_ws C T N, w ∈ lw_U) (hk : k < N) (hlink : Cond.fieldLink M.1.cls index (T k).1 (T k).2.1 (T k).2.2.1 ∈ lw_U) (ty0 : Nat → FieldType) (hty : ∀ k, k < N → parseFieldDescriptor (T k).2.2.1 = some (ty0 k)) (hnm : ∀ a, a < N → ∀ b, b < N → a ≠ b → (T a).2.1 ≠ (T b).2.1) (hfin : (T k).2.2.2 = false) (hi : ty0 k = .int) (hd : decode M.2.1 pc = .ok (.putfield index, 3)) : Snd M pc (oPutI ci k) := by
  intro p l e R s m args below meth c Q D cA A F ad H locs cells slots Ls ls st h ob dc ds cf hop hob hdc hds L kk
  obtain ⟨hx, hb, hml, hown, hts, hin, hfr, hlo⟩ := F
  obtain ⟨hK, hP, hD, hS, hL, hSx, hA⟩ := id L
  dsimp only [oPutI] at hop
  split at hop
  · next x a st0 =>
    split at hop
    · next c0 fs hx2 =>
      cases ho : (Nat.beq c0 ci && Nat.blt k fs.length) with
      | false => rw [ho] at hop; cases hop
      | true =>
        rw [ho] at hop
        rw [Bool.and_eq_true] at ho
        have e0 := Nat.eq_of_beq_eq_true ho.1
        have e1 := Nat.blt_eq.mp ho.2
        subst e0
        dsimp only [cond] at hop
        cases hop
        refine va_put (v := .int x) hx hb hts hin0 ty0 hty hnm hown hK hP hD hS a (wd_obj hx2) hc k hk (hts _ hlink) (fun _ h9 => h9) hfin (hty k hk) (by rw [hi]; rfl) (by rw [hi]; rfl) (by rw [List.length_map]; exact e1) hd (fun H1 locs1 hP1 hD1 hS1 => ?_)
        rw [show Value.int x = trV ad (.int x) from rfl, trE_obj] at hP1 hD1
        exact kk (by simp) ad H1 locs1 Ls Ext.rf ⟨hK, hP1, hD1, hS1, hL, hSx, hA⟩
    · cases hop
  · cases hop
set_option maxHeartbeats 1000000 in
theorem sd_putL {M : MI} {pc : Nat} {C : String} {T : u_T} {N ci k index : Nat} (hc : vwCl[ci]? = some (C, T, N)) (hin0 : ∀ w ∈ u_ws C T N, w ∈ lw_U) (hk : k < N) (hlink : Cond.fieldLink M.1.cls index (T k).1 (T k).2.1 (T k).2.2.1 ∈ lw_U) (ty0 : Nat → FieldType) (hty : ∀ k, k < N → parseFieldDescriptor (T k).2.2.1 = some (ty0 k)) (hnm : ∀ a, a < N → ∀ b, b < N → a ≠ b → (T a).2.1 ≠ (T b).2.1) (hfin : (T k).2.2.2 = false) (hi : ty0 k = .long) (hd : decode M.2.1 pc = .ok (.putfield index, 3)) : Snd M pc (oPutL ci k) := by
  intro p l e R s m args below meth c Q D cA A F ad H locs cells slots Ls ls st h ob dc ds cf hop hob hdc hds L kk
  obtain ⟨hx, hb, hml, hown, hts, hin, hfr, hlo⟩ := F
  obtain ⟨hK, hP, hD, hS, hL, hSx, hA⟩ := id L
  dsimp only [oPutL] at hop
  split at hop
  · next x a st0 =>
    split at hop
    · next c0 fs hx2 =>
      cases ho : (Nat.beq c0 ci && Nat.blt k fs.length) with
      | false => rw [ho] at hop; cases hop
      | true =>
        rw [ho] at hop
        rw [Bool.and_eq_true] at ho
        have e0 := Nat.eq_of_beq_eq_true ho.1
        have e1 := Nat.blt_eq.mp ho.2
        subst e0
        dsimp only [cond] at hop
        cases hop
        refine va_put (v := .long x) hx hb hts hin0 ty0 hty hnm hown hK hP hD hS a (wd_obj hx2) hc k hk (hts _ hlink) (fun _ h9 => h9) hfin (hty k hk) (by rw [hi]; rfl) (by rw [hi]; rfl) (by rw [List.length_map]; exact e1) hd (fun H1 locs1 hP1 hD1 hS1 => ?_)
        rw [show Value.long x = trV ad (.long x) from rfl, trE_obj] at hP1 hD1
        exact kk (by simp) ad H1 locs1 Ls Ext.rf ⟨hK, hP1, hD1, hS1, hL, hSx, hA⟩
    · cases hop
  · cases hop
set_option maxHeartbeats 1000000 in
theorem sd_putZ {M : MI} {pc : Nat} {C : String} {T : u_T} {N ci k index : Nat} (hc : vwCl[ci]? = some (C, T, N)) (hin0 : ∀ w ∈ u_ws C T N, w ∈ lw_U) (hk : k < N) (hlink : Cond.fieldLink M.1.cls index (T k).1 (T k).2.1 (T k).2.2.1 ∈ lw_U) (ty0 : Nat → FieldType) (hty : ∀ k, k < N → parseFieldDescriptor (T k).2.2.1 = some (ty0 k)) (hnm : ∀ a, a < N → ∀ b, b < N → a ≠ b → (T a).2.1 ≠ (T b).2.1) (hfin : (T k).2.2.2 = false) (hi : ty0 k = .boolean) (hd : decode M.2.1 pc = .ok (.putfield index, 3)) : Snd M pc (oPutZ ci k) := by
  intro p l e R s m args below meth c Q D cA A F ad H locs cells slots Ls ls st h ob dc ds cf hop hob hdc hds L kk
  obtain ⟨hx, hb, hml, hown, hts, hin, hfr, hlo⟩ := F
  obtain ⟨hK, hP, hD, hS, hL, hSx, hA⟩ := id L
  dsimp only [oPutZ] at hop
  split at hop
  · next x a st0 =>
    split at hop
    · next c0 fs hx2 =>
      cases ho : (Nat.beq c0 ci && Nat.blt k fs.length) with
      | false => rw [ho] at hop; cases hop
      | true =>
        rw [ho] at hop
        rw [Bool.and_eq_true] at ho
        have e0 := Nat.eq_of_beq_eq_true ho.1
        have e1 := Nat.blt_eq.mp ho.2
        subst e0
        dsimp only [cond] at hop
        cases hop
        refine va_put (v := .int x) hx hb hts hin0 ty0 hty hnm hown hK hP hD hS a (wd_obj hx2) hc k hk (hts _ hlink) (fun _ h9 => h9) hfin (hty k hk) (by rw [hi]; rcases hob.1 with z | z <;> subst z <;> rfl) (by rw [hi]; rcases hob.1 with z | z <;> subst z <;> rfl) (by rw [List.length_map]; exact e1) hd (fun H1 locs1 hP1 hD1 hS1 => ?_)
        rw [show Value.int x = trV ad (.int x) from rfl, trE_obj] at hP1 hD1
        exact kk (by simp) ad H1 locs1 Ls Ext.rf ⟨hK, hP1, hD1, hS1, hL, hSx, hA⟩
    · cases hop
  · cases hop
set_option maxHeartbeats 1000000 in
theorem sd_putA {M : MI} {pc : Nat} {C : String} {T : u_T} {N ci k index : Nat} (hc : vwCl[ci]? = some (C, T, N)) (hin0 : ∀ w ∈ u_ws C T N, w ∈ lw_U) (hk : k < N) (hlink : Cond.fieldLink M.1.cls index (T k).1 (T k).2.1 (T k).2.2.1 ∈ lw_U) (ty0 : Nat → FieldType) (hty : ∀ k, k < N → parseFieldDescriptor (T k).2.2.1 = some (ty0 k)) (hnm : ∀ a, a < N → ∀ b, b < N → a ≠ b → (T a).2.1 ≠ (T b).2.1) (hfin : (T k).2.2.2 = false) (hi : (∃ n, ty0 k = .object n) ∨ ∃ t, ty0 k = .array t) (hd : decode M.2.1 pc = .ok (.putfield index, 3)) : Snd M pc (oPutA ci k) := by
  intro p l e R s m args below meth c Q D cA A F ad H locs cells slots Ls ls st h ob dc ds cf hop hob hdc hds L kk
  obtain ⟨hx, hb, hml, hown, hts, hin, hfr, hlo⟩ := F
  obtain ⟨hK, hP, hD, hS, hL, hSx, hA⟩ := id L
  dsimp only [oPutA] at hop
  split at hop
  · next x a st0 =>
    split at hop
    · next c0 fs hx2 =>
      cases ho : (Nat.beq c0 ci && Nat.blt k fs.length) with
      | false => rw [ho] at hop; cases hop
      | true =>
        rw [ho] at hop
        rw [Bool.and_eq_true] at ho
        have e0 := Nat.eq_of_beq_eq_true ho.1
        have e1 := Nat.blt_eq.mp ho.2
        subst e0
        dsimp only [cond] at hop
        cases hop
        refine va_put (v := .ref (ad x)) hx hb hts hin0 ty0 hty hnm hown hK hP hD hS a (wd_obj hx2) hc k hk (hts _ hlink) (fun _ h9 => h9) hfin (hty k hk) (by rcases hi with ⟨n, z⟩ | ⟨n, z⟩ <;> rw [z] <;> rfl) (by rcases hi with ⟨n, z⟩ | ⟨n, z⟩ <;> rw [z] <;> rfl) (by rw [List.length_map]; exact e1) hd (fun H1 locs1 hP1 hD1 hS1 => ?_)
        rw [show Value.ref (ad x) = trV ad (.ref x) from rfl, trE_obj] at hP1 hD1
        exact kk (by simp) ad H1 locs1 Ls Ext.rf ⟨hK, hP1, hD1, hS1, hL, hSx, hA⟩
    · cases hop
  · next  a st0 =>
    split at hop
    · next c0 fs hx2 =>
      cases ho : (Nat.beq c0 ci && Nat.blt k fs.length) with
      | false => rw [ho] at hop; cases hop
      | true =>
        rw [ho] at hop
        rw [Bool.and_eq_true] at ho
        have e0 := Nat.eq_of_beq_eq_true ho.1
        have e1 := Nat.blt_eq.mp ho.2
        subst e0
        dsimp only [cond] at hop
        cases hop
        refine va_put (v := .null) hx hb hts hin0 ty0 hty hnm hown hK hP hD hS a (wd_obj hx2) hc k hk (hts _ hlink) (fun _ h9 => h9) hfin (hty k hk) (by rcases hi with ⟨n, z⟩ | ⟨n, z⟩ <;> rw [z] <;> rfl) (by rcases hi with ⟨n, z⟩ | ⟨n, z⟩ <;> rw [z] <;> rfl) (by rw [List.length_map]; exact e1) hd (fun H1 locs1 hP1 hD1 hS1 => ?_)
        rw [show Value.null = trV ad (.null) from rfl, trE_obj] at hP1 hD1
        exact kk (by simp) ad H1 locs1 Ls Ext.rf ⟨hK, hP1, hD1, hS1, hL, hSx, hA⟩
    · cases hop
  · cases hop
set_option maxHeartbeats 1000000 in
theorem sd_putIF {M : MI} {pc : Nat} {C : String} {T : u_T} {N ci k index : Nat} (hc : vwCl[ci]? = some (C, T, N)) (hin0 : ∀ w ∈ u_ws C T N, w ∈ lw_U) (hk : k < N) (hlink : Cond.fieldLink M.1.cls index (T k).1 (T k).2.1 (T k).2.2.1 ∈ lw_U) (ty0 : Nat → FieldType) (hty : ∀ k, k < N → parseFieldDescriptor (T k).2.2.1 = some (ty0 k)) (hnm : ∀ a, a < N → ∀ b, b < N → a ≠ b → (T a).2.1 ≠ (T b).2.1) (hfin : (T k).2.2.2 = true) (hi2 : M.1.name = "<init>") (hdecl : (T k).1 = M.1.cls) (hi : ty0 k = .int) (hd : decode M.2.1 pc = .ok (.putfield index, 3)) : Snd M pc (oPutI ci k) := by
  intro p l e R s m args below meth c Q D cA A F ad H locs cells slots Ls ls st h ob dc ds cf hop hob hdc hds L kk
  obtain ⟨hx, hb, hml, hown, hts, hin, hfr, hlo⟩ := F
  obtain ⟨hK, hP, hD, hS, hL, hSx, hA⟩ := id L
  dsimp only [oPutI] at hop
  split at hop
  · next x a st0 =>
    split at hop
    · next c0 fs hx2 =>
      cases ho : (Nat.beq c0 ci && Nat.blt k fs.length) with
      | false => rw [ho] at hop; cases hop
      | true =>
        rw [ho] at hop
        rw [Bool.and_eq_true] at ho
        have e0 := Nat.eq_of_beq_eq_true ho.1
        have e1 := Nat.blt_eq.mp ho.2
        subst e0
        dsimp only [cond] at hop
        cases hop
        refine va_putF (v := .int x) hx hb hts hin0 ty0 hty hnm hown hK hP hD hS a (wd_obj hx2) hc k hk (hts _ hlink) (fun _ h9 => h9) hfin (hin hi2) hdecl (hty k hk) (by rw [hi]; rfl) (by rw [hi]; rfl) (by rw [List.length_map]; exact e1) hd (fun H1 locs1 hP1 hD1 hS1 => ?_)
        rw [show Value.int x = trV ad (.int x) from rfl, trE_obj] at hP1 hD1
        exact kk (by simp) ad H1 locs1 Ls Ext.rf ⟨hK, hP1, hD1, hS1, hL, hSx, hA⟩
    · cases hop
  · cases hop
set_option maxHeartbeats 1000000 in
theorem sd_putLF {M : MI} {pc : Nat} {C : String} {T : u_T} {N ci k index : Nat} (hc : vwCl[ci]? = some (C, T, N)) (hin0 : ∀ w ∈ u_ws C T N, w ∈ lw_U) (hk : k < N) (hlink : Cond.fieldLink M.1.cls index (T k).1 (T k).2.1 (T k).2.2.1 ∈ lw_U) (ty0 : Nat → FieldType) (hty : ∀ k, k < N → parseFieldDescriptor (T k).2.2.1 = some (ty0 k)) (hnm : ∀ a, a < N → ∀ b, b < N → a ≠ b → (T a).2.1 ≠ (T b).2.1) (hfin : (T k).2.2.2 = true) (hi2 : M.1.name = "<init>") (hdecl : (T k).1 = M.1.cls) (hi : ty0 k = .long) (hd : decode M.2.1 pc = .ok (.putfield index, 3)) : Snd M pc (oPutL ci k) := by
  intro p l e R s m args below meth c Q D cA A F ad H locs cells slots Ls ls st h ob dc ds cf hop hob hdc hds L kk
  obtain ⟨hx, hb, hml, hown, hts, hin, hfr, hlo⟩ := F
  obtain ⟨hK, hP, hD, hS, hL, hSx, hA⟩ := id L
  dsimp only [oPutL] at hop
  split at hop
  · next x a st0 =>
    split at hop
    · next c0 fs hx2 =>
      cases ho : (Nat.beq c0 ci && Nat.blt k fs.length) with
      | false => rw [ho] at hop; cases hop
      | true =>
        rw [ho] at hop
        rw [Bool.and_eq_true] at ho
        have e0 := Nat.eq_of_beq_eq_true ho.1
        have e1 := Nat.blt_eq.mp ho.2
        subst e0
        dsimp only [cond] at hop
        cases hop
        refine va_putF (v := .long x) hx hb hts hin0 ty0 hty hnm hown hK hP hD hS a (wd_obj hx2) hc k hk (hts _ hlink) (fun _ h9 => h9) hfin (hin hi2) hdecl (hty k hk) (by rw [hi]; rfl) (by rw [hi]; rfl) (by rw [List.length_map]; exact e1) hd (fun H1 locs1 hP1 hD1 hS1 => ?_)
        rw [show Value.long x = trV ad (.long x) from rfl, trE_obj] at hP1 hD1
        exact kk (by simp) ad H1 locs1 Ls Ext.rf ⟨hK, hP1, hD1, hS1, hL, hSx, hA⟩
    · cases hop
  · cases hop
set_option maxHeartbeats 1000000 in
theorem sd_putZF {M : MI} {pc : Nat} {C : String} {T : u_T} {N ci k index : Nat} (hc : vwCl[ci]? = some (C, T, N)) (hin0 : ∀ w ∈ u_ws C T N, w ∈ lw_U) (hk : k < N) (hlink : Cond.fieldLink M.1.cls index (T k).1 (T k).2.1 (T k).2.2.1 ∈ lw_U) (ty0 : Nat → FieldType) (hty : ∀ k, k < N → parseFieldDescriptor (T k).2.2.1 = some (ty0 k)) (hnm : ∀ a, a < N → ∀ b, b < N → a ≠ b → (T a).2.1 ≠ (T b).2.1) (hfin : (T k).2.2.2 = true) (hi2 : M.1.name = "<init>") (hdecl : (T k).1 = M.1.cls) (hi : ty0 k = .boolean) (hd : decode M.2.1 pc = .ok (.putfield index, 3)) : Snd M pc (oPutZ ci k) := by
  intro p l e R s m args below meth c Q D cA A F ad H locs cells slots Ls ls st h ob dc ds cf hop hob hdc hds L kk
  obtain ⟨hx, hb, hml, hown, hts, hin, hfr, hlo⟩ := F
  obtain ⟨hK, hP, hD, hS, hL, hSx, hA⟩ := id L
  dsimp only [oPutZ] at hop
  split at hop
  · next x a st0 =>
    split at hop
    · next c0 fs hx2 =>
      cases ho : (Nat.beq c0 ci && Nat.blt k fs.length) with
      | false => rw [ho] at hop; cases hop
      | true =>
        rw [ho] at hop
        rw [Bool.and_eq_true] at ho
        have e0 := Nat.eq_of_beq_eq_true ho.1
        have e1 := Nat.blt_eq.mp ho.2
        subst e0
        dsimp only [cond] at hop
        cases hop
        refine va_putF (v := .int x) hx hb hts hin0 ty0 hty hnm hown hK hP hD hS a (wd_obj hx2) hc k hk (hts _ hlink) (fun _ h9 => h9) hfin (hin hi2) hdecl (hty k hk) (by rw [hi]; rcases hob.1 with z | z <;> subst z <;> rfl) (by rw [hi]; rcases hob.1 with z | z <;> subst z <;> rfl) (by rw [List.length_map]; exact e1) hd (fun H1 locs1 hP1 hD1 hS1 => ?_)
        rw [show Value.int x = trV ad (.int x) from rfl, trE_obj] at hP1 hD1
        exact kk (by simp) ad H1 locs1 Ls Ext.rf ⟨hK, hP1, hD1, hS1, hL, hSx, hA⟩
    · cases hop
  · cases hop
set_option maxHeartbeats 1000000 in
theorem sd_putAF {M : MI} {pc : Nat} {C : String} {T : u_T} {N ci k index : Nat} (hc : vwCl[ci]? = some (C, T, N)) (hin0 : ∀ w ∈ u_ws C T N, w ∈ lw_U) (hk : k < N) (hlink : Cond.fieldLink M.1.cls index (T k).1 (T k).2.1 (T k).2.2.1 ∈ lw_U) (ty0 : Nat → FieldType) (hty : ∀ k, k < N → parseFieldDescriptor (T k).2.2.1 = some (ty0 k)) (hnm : ∀ a, a < N → ∀ b, b < N → a ≠ b → (T a).2.1 ≠ (T b).2.1) (hfin : (T k).2.2.2 = true) (hi2 : M.1.name = "<init>") (hdecl : (T k).1 = M.1.cls) (hi : (∃ n, ty0 k = .object n) ∨ ∃ t, ty0 k = .array t) (hd : decode M.2.1 pc = .ok (.putfield index, 3)) : Snd M pc (oPutA ci k) := by
  intro p l e R s m args below meth c Q D cA A F ad H locs cells slots Ls ls st h ob dc ds cf hop hob hdc hds L kk
  obtain ⟨hx, hb, hml, hown, hts, hin, hfr, hlo⟩ := F
  obtain ⟨hK, hP, hD, hS, hL, hSx, hA⟩ := id L
  dsimp only [oPutA] at hop
  split at hop
  · next x a st0 =>
    split at hop
    · next c0 fs hx2 =>
      cases ho : (Nat.beq c0 ci && Nat.blt k fs.length) with
      | false => rw [ho] at hop; cases hop
      | true =>
        rw [ho] at hop
        rw [Bool.and_eq_true] at ho
        have e0 := Nat.eq_of_beq_eq_true ho.1
        have e1 := Nat.blt_eq.mp ho.2
        subst e0
        dsimp only [cond] at hop
        cases hop
        refine va_putF (v := .ref (ad x)) hx hb hts hin0 ty0 hty hnm hown hK hP hD hS a (wd_obj hx2) hc k hk (hts _ hlink) (fun _ h9 => h9) hfin (hin hi2) hdecl (hty k hk) (by rcases hi with ⟨n, z⟩ | ⟨n, z⟩ <;> rw [z] <;> rfl) (by rcases hi with ⟨n, z⟩ | ⟨n, z⟩ <;> rw [z] <;> rfl) (by rw [List.length_map]; exact e1) hd (fun H1 locs1 hP1 hD1 hS1 => ?_)
        rw [show Value.ref (ad x) = trV ad (.ref x) from rfl, trE_obj] at hP1 hD1
        exact kk (by simp) ad H1 locs1 Ls Ext.rf ⟨hK, hP1, hD1, hS1, hL, hSx, hA⟩
    · cases hop
  · next  a st0 =>
    split at hop
    · next c0 fs hx2 =>
      cases ho : (Nat.beq c0 ci && Nat.blt k fs.length) with
      | false => rw [ho] at hop; cases hop
      | true =>
        rw [ho] at hop
        rw [Bool.and_eq_true] at ho
        have e0 := Nat.eq_of_beq_eq_true ho.1
        have e1 := Nat.blt_eq.mp ho.2
        subst e0
        dsimp only [cond] at hop
        cases hop
        refine va_putF (v := .null) hx hb hts hin0 ty0 hty hnm hown hK hP hD hS a (wd_obj hx2) hc k hk (hts _ hlink) (fun _ h9 => h9) hfin (hin hi2) hdecl (hty k hk) (by rcases hi with ⟨n, z⟩ | ⟨n, z⟩ <;> rw [z] <;> rfl) (by rcases hi with ⟨n, z⟩ | ⟨n, z⟩ <;> rw [z] <;> rfl) (by rw [List.length_map]; exact e1) hd (fun H1 locs1 hP1 hD1 hS1 => ?_)
        rw [show Value.null = trV ad (.null) from rfl, trE_obj] at hP1 hD1
        exact kk (by simp) ad H1 locs1 Ls Ext.rf ⟨hK, hP1, hD1, hS1, hL, hSx, hA⟩
    · cases hop
  · cases hop
set_option maxHeartbeats 1000000 in
theorem sd_iald {M : MI} {pc : Nat} (hd : decode M.2.1 pc = .ok (.iaload, 1)) : Snd M pc (oIald) := by
  intro p l e R s m args below meth c Q D cA A F ad H locs cells slots Ls ls st h ob dc ds cf hop hob hdc hds L kk
  obtain ⟨hx, hb, hml, hown, hts, hin, hfr, hlo⟩ := F
  obtain ⟨hK, hP, hD, hS, hL, hSx, hA⟩ := id L
  dsimp only [oIald] at hop
  split at hop
  · next i a st0 =>
    split at hop
    · next k0 n0 f hx2 =>
      cases ho : Nat.beq k0 0 with
      | false => rw [ho] at hop; cases hop
      | true =>
        rw [ho] at hop
        have e0 := Nat.eq_of_beq_eq_true ho
        subst e0
        cases hop
        exact va_iald hx hb hK hP a 0 (wd_int hx2) rfl hob.1 hd (kk (Nat.le_refl _) ad H locs Ls Ext.rf L)
    · cases hop
  · cases hop
set_option maxHeartbeats 1000000 in
theorem sd_zald {M : MI} {pc : Nat} (hd : decode M.2.1 pc = .ok (.baload, 1)) : Snd M pc (oZald) := by
  intro p l e R s m args below meth c Q D cA A F ad H locs cells slots Ls ls st h ob dc ds cf hop hob hdc hds L kk
  obtain ⟨hx, hb, hml, hown, hts, hin, hfr, hlo⟩ := F
  obtain ⟨hK, hP, hD, hS, hL, hSx, hA⟩ := id L
  dsimp only [oZald] at hop
  split at hop
  · next i a st0 =>
    split at hop
    · next k0 n0 f hx2 =>
      cases ho : Nat.beq k0 1 with
      | false => rw [ho] at hop; cases hop
      | true =>
        rw [ho] at hop
        have e0 := Nat.eq_of_beq_eq_true ho
        subst e0
        cases hop
        exact va_zald hx hb hK hP a 1 (wd_int hx2) rfl hob.1 hd (kk (Nat.le_refl _) ad H locs Ls Ext.rf L)
    · cases hop
  · cases hop
set_option maxHeartbeats 1000000 in
theorem sd_iast {M : MI} {pc : Nat} (hd : decode M.2.1 pc = .ok (.iastore, 1)) : Snd M pc (oIast) := by
  intro p l e R s m args below meth c Q D cA A F ad H locs cells slots Ls ls st h ob dc ds cf hop hob hdc hds L kk
  obtain ⟨hx, hb, hml, hown, hts, hin, hfr, hlo⟩ := F
  obtain ⟨hK, hP, hD, hS, hL, hSx, hA⟩ := id L
  dsimp only [oIast] at hop
  split at hop
  · next x i a st0 =>
    split at hop
    · next k0 n0 f hx2 =>
      cases ho : Nat.beq k0 0 with
      | false => rw [ho] at hop; cases hop
      | true =>
        rw [ho] at hop
        have e0 := Nat.eq_of_beq_eq_true ho
        subst e0
        cases hop
        refine va_iast hx hb hK hP hD hS a 0 (wd_int hx2) rfl hob.1 hd (fun H1 locs1 hP1 hD1 hS1 => ?_)
        rw [wd_setI] at hP1 hD1
        exact kk (by simp) ad H1 locs1 Ls Ext.rf ⟨hK, hP1, hD1, hS1, hL, hSx, hA⟩
    · cases hop
  · cases hop
set_option maxHeartbeats 1000000 in
theorem sd_zast {M : MI} {pc : Nat} (hd : decode M.2.1 pc = .ok (.bastore, 1)) : Snd M pc (oZast) := by
  intro p l e R s m args below meth c Q D cA A F ad H locs cells slots Ls ls st h ob dc ds cf hop hob hdc hds L kk
  obtain ⟨hx, hb, hml, hown, hts, hin, hfr, hlo⟩ := F
  obtain ⟨hK, hP, hD, hS, hL, hSx, hA⟩ := id L
  dsimp only [oZast] at hop
  split at hop
  · next x i a st0 =>
    split at hop
    · next k0 n0 f hx2 =>
      cases ho : Nat.beq k0 1 with
      | false => rw [ho] at hop; cases hop
      | true =>
        rw [ho] at hop
        have e0 := Nat.eq_of_beq_eq_true ho
        subst e0
        cases hop
        refine va_zast hx hb hK hP hD hS a 1 (wd_int hx2) rfl hob.1 hd (fun H1 locs1 hP1 hD1 hS1 => ?_)
        rw [hob.2.1, wd_setI] at hP1 hD1
        exact kk (by simp) ad H1 locs1 Ls Ext.rf ⟨hK, hP1, hD1, hS1, hL, hSx, hA⟩
    · cases hop
  · cases hop
set_option maxHeartbeats 1000000 in
theorem sd_len {M : MI} {pc : Nat} (hd : decode M.2.1 pc = .ok (.arraylength, 1)) : Snd M pc (oLen) := by
  intro p l e R s m args below meth c Q D cA A F ad H locs cells slots Ls ls st h ob dc ds cf hop hob hdc hds L kk
  obtain ⟨hx, hb, hml, hown, hts, hin, hfr, hlo⟩ := F
  obtain ⟨hK, hP, hD, hS, hL, hSx, hA⟩ := id L
  dsimp only [oLen] at hop
  split at hop
  · next a st0 =>
    split at hop
    · next k0 n0 x0 hx2 =>
      cases ho : Nat.blt k0 5 with
      | false => rw [ho] at hop; cases hop
      | true =>
        rw [ho] at hop
        obtain ⟨ty, hty⟩ := tys_at cA (Nat.blt_eq.mp ho)
        cases hop
        have hw := wd_at (ad := ad) (cA := cA) hx2
        rcases x0 with f | f | f | f | f <;> exact va_alen hx hb hK hP a k0 hw hty rfl hd (kk (Nat.le_refl _) ad H locs Ls Ext.rf L)
    · cases hop
  · cases hop
set_option maxHeartbeats 1000000 in
theorem sd_qald {M : MI} {pc : Nat} (hd : decode M.2.1 pc = .ok (.aaload, 1)) : Snd M pc (oQald) := by
  intro p l e R s m args below meth c Q D cA A F ad H locs cells slots Ls ls st h ob dc ds cf hop hob hdc hds L kk
  obtain ⟨hx, hb, hml, hown, hts, hin, hfr, hlo⟩ := F
  obtain ⟨hK, hP, hD, hS, hL, hSx, hA⟩ := id L
  dsimp only [oQald] at hop
  split at hop
  · next i a st0 =>
    split at hop
    · next k0 n0 f hx2 =>
      cases ho : (Nat.ble 2 k0 && Nat.blt k0 5) with
      | false => rw [ho] at hop; cases hop
      | true =>
        rw [ho] at hop
        rw [Bool.and_eq_true] at ho
        have e1 := Nat.le_of_ble_eq_true ho.1
        have e2 := Nat.blt_eq.mp ho.2
        cases hop
        have hw := wd_ref (ad := ad) (cA := cA) hx2
        have k9 := kk (Nat.le_refl _) ad H locs Ls Ext.rf L
        dsimp only at k9
        rw [List.map_cons, trV_rf] at k9
        rcases three e1 e2 with z | z | z <;> subst z
        · exact va_aldq (C := RX6) hx hb hK hP a 2 hw rfl hob.1 hd k9
        · exact va_aldq (C := RX8) hx hb hK hP a 3 hw rfl hob.1 hd k9
        · exact va_aldq (C := RX9) hx hb hK hP a 4 hw rfl hob.1 hd k9
    · cases hop
  · cases hop
set_option maxHeartbeats 1000000 in
theorem sd_qast {M : MI} {pc : Nat} (hd : decode M.2.1 pc = .ok (.aastore, 1)) : Snd M pc (oQast) := by
  intro p l e R s m args below meth c Q D cA A F ad H locs cells slots Ls ls st h ob dc ds cf hop hob hdc hds L kk
  obtain ⟨hx, hb, hml, hown, hts, hin, hfr, hlo⟩ := F
  obtain ⟨hK, hP, hD, hS, hL, hSx, hA⟩ := id L
  dsimp only [oQast] at hop
  split at hop
  · next x i a st0 =>
    split at hop
    · next k0 n0 f hx2 =>
      split at hop
      · next c0 vs hx3 =>
        cases ho : (Nat.ble 2 k0 && (Nat.blt k0 5 && Nat.beq c0 (k0 + 2))) with
        | false => rw [ho] at hop; cases hop
        | true =>
          rw [ho] at hop
          rw [Bool.and_eq_true, Bool.and_eq_true] at ho
          have e1 := Nat.le_of_ble_eq_true ho.1
          have e2 := Nat.blt_eq.mp ho.2.1
          have e3 := Nat.eq_of_beq_eq_true ho.2.2
          subst e3
          cases hop
          have hw := wd_ref (ad := ad) (cA := cA) hx2
          have hq : ∀ k0 : Nat, (wd ad cA h).set a (ad a, .inl (cA k0, n0, .inr (.inr (.inr (.inr (va_up (fun j => (f j).map ad) i.toNatClampNeg (some (ad x)))))))) = wd ad cA (h.set a (.inl (k0, n0, .inr (.inr (.inr (.inr (va_up f i.toNatClampNeg (some x)))))))) := by
            intro k0
            rw [← wd_set]
            simp only [trE]
            congr 10
            funext j
            unfold va_up
            split <;> rfl
          rcases three e1 e2 with z | z | z <;> subst z
          · refine va_astq (r := (RX6, TX6, 3)) hx hb hK hP hD hS a 2 x 4 hw rfl (wd_obj hx3) rfl hob.1 hd (fun H1 locs1 hP1 hD1 hS1 => ?_)
            rw [hq] at hP1 hD1
            exact kk (by simp) ad H1 locs1 Ls Ext.rf ⟨hK, hP1, hD1, hS1, hL, hSx, hA⟩
          · refine va_astq (r := (RX8, TX8, 2)) hx hb hK hP hD hS a 3 x 5 hw rfl (wd_obj hx3) rfl hob.1 hd (fun H1 locs1 hP1 hD1 hS1 => ?_)
            rw [hq] at hP1 hD1
            exact kk (by simp) ad H1 locs1 Ls Ext.rf ⟨hK, hP1, hD1, hS1, hL, hSx, hA⟩
          · refine va_astq (r := (RX9, TX9, 10)) hx hb hK hP hD hS a 4 x 6 hw rfl (wd_obj hx3) rfl hob.1 hd (fun H1 locs1 hP1 hD1 hS1 => ?_)
            rw [hq] at hP1 hD1
            exact kk (by simp) ad H1 locs1 Ls Ext.rf ⟨hK, hP1, hD1, hS1, hL, hSx, hA⟩
      · cases hop
    · cases hop
  · cases hop
theorem lN_five {n : Nat} (h : n ≤ 100000) (k : Nat) (hk : k ≤ 8) : n * k ≤ 536870912 := by
  have := Nat.mul_le_mul h hk
  omega

set_option maxHeartbeats 1000000 in
theorem sd_new {M : MI} {pc : Nat} {C : String} {T : u_T} {N ci index : Nat} {fs : List Value} (hc : vwCl[ci]? = some (C, T, N)) (hin0 : ∀ w ∈ u_ws C T N, w ∈ lw_U) (ty0 : Nat → FieldType) (hty : ∀ k, k < N → parseFieldDescriptor (T k).2.2.1 = some (ty0 k)) (hcl : Cond.classLink M.1.cls index C ∈ lw_U) (hinst : Cond.instantiable C N ∈ lw_U) (hini : Cond.initialized C ∈ lw_U) (hfs : ∀ j, j < N → defaultValue (ty0 j) = vp_V fs j) (hft : ∀ ad : Nat → Nat, fs.map (trV ad) = fs) (hd : decode M.2.1 pc = .ok (.new index, 3)) : Snd M pc (oNew ci N fs) := by
  intro p l e R s m args below meth c Q D cA A F ad H locs cells slots Ls ls st h ob dc ds cf hop hob hdc hds L kk
  obtain ⟨hx, hb, hml, hown, hts, hin, hfr, hlo⟩ := F
  obtain ⟨hK, hP, hD, hS, hL, hSx, hA⟩ := id L
  cases hop
  obtain ⟨⟨hn, hw1, hw2, hw3⟩, -⟩ := hob
  refine va_new hx hb hts hin0 ty0 hty hown (hts _ hcl) (hts _ hinst) (hts _ hini) hK hP hD hS hA hc hfs hdc hds hd (fun q H1 hP1 hD1 hS1 => ?_)
  rw [show ((q, .inr (ci, fs)) : Nat × va_E) = (upA ad h.length q h.length, trE (upA ad h.length q) cA (.inr (ci, fs))) from by rw [upA_self]; simp only [trE, hft], ← wd_up hn hw3, ← wd_push] at hP1 hD1
  have k9 := kk (by simp) (upA ad h.length q) H1 locs Ls (by simpa using Ext.up) ⟨hK, hP1, hD1, hS1, hL.up hn hw1, hSx.ext (fun k h9 => upA_lt (Or.inr h9) hn), hA⟩
  dsimp only at k9
  rw [List.map_cons, trV_ref, upA_self, st_up hn hw2] at k9
  exact k9

set_option maxHeartbeats 1000000 in
theorem sd_newI {M : MI} {pc : Nat} (hw0 : Cond.arrayClass .int ∈ lw_U) (hd : decode M.2.1 pc = .ok (.newarray .int, 2)) : Snd M pc (oNewI) := by
  intro p l e R s m args below meth c Q D cA A F ad H locs cells slots Ls ls st h ob dc ds cf hop hob hdc hds L kk
  obtain ⟨hx, hb, hml, hown, hts, hin, hfr, hlo⟩ := F
  obtain ⟨hK, hP, hD, hS, hL, hSx, hA⟩ := id L
  dsimp only [oNewI] at hop
  split at hop
  · next x st0 =>
    cases hop
    obtain ⟨⟨hn, hw1, hw2, hw3⟩, hx0, hx1, -⟩ := hob
    refine va_newa (ty := .int) (a0 := (x.toNatClampNeg, .inl (fun _ => 0))) hx hb (atype := .int) (hts _ hw0) rfl hK hP hD hS hA (fun cA9 => rfl) hx0 rfl (lN_five hx1 _ (by decide)) hdc hds hd (fun q c9 H1 hK1 hP1 hD1 hS1 => ?_)
    have e9 : c9 = cA 0 := Option.some.inj (((hK1.2 5 _ rfl).2).symm.trans ((hK.2 0 _ rfl).2))
    subst e9
    rw [show ((q, .inl (cA 0, x.toNatClampNeg, .inl (fun _ => 0))) : Nat × va_E) = (upA ad h.length q h.length, trE (upA ad h.length q) cA (.inl (0, x.toNatClampNeg, .inl (fun _ => 0)))) from by rw [upA_self]; rfl, ← wd_up hn hw3, ← wd_push] at hP1 hD1
    have k9 := kk (by simp) (upA ad h.length q) H1 locs Ls (by simpa using Ext.up) ⟨hK, hP1, hD1, hS1, hL.up hn hw1, hSx.ext (fun k h9 => upA_lt (Or.inr h9) hn), hA⟩
    dsimp only at k9
    rw [List.map_cons, trV_ref, upA_self, st_up hn hw2] at k9
    exact k9
  · cases hop
set_option maxHeartbeats 1000000 in
theorem sd_newZ {M : MI} {pc : Nat} (hw0 : Cond.arrayClass .boolean ∈ lw_U) (hd : decode M.2.1 pc = .ok (.newarray .boolean, 2)) : Snd M pc (oNewZ) := by
  intro p l e R s m args below meth c Q D cA A F ad H locs cells slots Ls ls st h ob dc ds cf hop hob hdc hds L kk
  obtain ⟨hx, hb, hml, hown, hts, hin, hfr, hlo⟩ := F
  obtain ⟨hK, hP, hD, hS, hL, hSx, hA⟩ := id L
  dsimp only [oNewZ] at hop
  split at hop
  · next x st0 =>
    cases hop
    obtain ⟨⟨hn, hw1, hw2, hw3⟩, hx0, hx1, -⟩ := hob
    refine va_newa (ty := .boolean) (a0 := (x.toNatClampNeg, .inl (fun _ => 0))) hx hb (atype := .boolean) (hts _ hw0) rfl hK hP hD hS hA (fun cA9 => rfl) hx0 rfl (lN_five hx1 _ (by decide)) hdc hds hd (fun q c9 H1 hK1 hP1 hD1 hS1 => ?_)
    have e9 : c9 = cA 1 := Option.some.inj (((hK1.2 5 _ rfl).2).symm.trans ((hK.2 1 _ rfl).2))
    subst e9
    rw [show ((q, .inl (cA 1, x.toNatClampNeg, .inl (fun _ => 0))) : Nat × va_E) = (upA ad h.length q h.length, trE (upA ad h.length q) cA (.inl (1, x.toNatClampNeg, .inl (fun _ => 0)))) from by rw [upA_self]; rfl, ← wd_up hn hw3, ← wd_push] at hP1 hD1
    have k9 := kk (by simp) (upA ad h.length q) H1 locs Ls (by simpa using Ext.up) ⟨hK, hP1, hD1, hS1, hL.up hn hw1, hSx.ext (fun k h9 => upA_lt (Or.inr h9) hn), hA⟩
    dsimp only at k9
    rw [List.map_cons, trV_ref, upA_self, st_up hn hw2] at k9
    exact k9
  · cases hop
set_option maxHeartbeats 1000000 in
theorem sd_newQ2 {M : MI} {pc : Nat} {index : Nat} (hcl : Cond.classLink M.1.cls index RX6 ∈ lw_U) (hov : Cond.arrayOver (.object RX6) ∈ lw_U) (hd : decode M.2.1 pc = .ok (.anewarray index, 3)) : Snd M pc (oNewQ 2) := by
  intro p l e R s m args below meth c Q D cA A F ad H locs cells slots Ls ls st h ob dc ds cf hop hob hdc hds L kk
  obtain ⟨hx, hb, hml, hown, hts, hin, hfr, hlo⟩ := F
  obtain ⟨hK, hP, hD, hS, hL, hSx, hA⟩ := id L
  dsimp only [oNewQ] at hop
  split at hop
  · next x st0 =>
    cases hop
    obtain ⟨⟨hn, hw1, hw2, hw3⟩, hx0, hx1, -⟩ := hob
    refine va_newq (C := RX6) hx hb hown (hts _ hcl) (va_AO.of (hts _ hov)) hK hP hD hS hA hx0 rfl (lN_five hx1 4 (by decide)) hdc hds hd (fun q c9 H1 hK1 hP1 hD1 hS1 => ?_)
    have e9 : c9 = cA 2 := by
      obtain ⟨-, -, -, -, -, g1⟩ := (hK1.2 5 _ rfl).2
      obtain ⟨-, -, -, -, -, g2⟩ := (hK.2 2 _ rfl).2
      exact Option.some.inj (g1.symm.trans g2)
    subst e9
    rw [show ((q, .inl (cA 2, x.toNatClampNeg, .inr (.inr (.inr (.inr (fun _ => none)))))) : Nat × va_E) = (upA ad h.length q h.length, trE (upA ad h.length q) cA (.inl (2, x.toNatClampNeg, .inr (.inr (.inr (.inr (fun _ => none))))))) from by rw [upA_self]; rfl, ← wd_up hn hw3, ← wd_push] at hP1 hD1
    have k9 := kk (by simp) (upA ad h.length q) H1 locs Ls (by simpa using Ext.up) ⟨hK, hP1, hD1, hS1, hL.up hn hw1, hSx.ext (fun k h9 => upA_lt (Or.inr h9) hn), hA⟩
    dsimp only at k9
    rw [List.map_cons, trV_ref, upA_self, st_up hn hw2] at k9
    exact k9
  · cases hop
set_option maxHeartbeats 1000000 in
theorem sd_newQ3 {M : MI} {pc : Nat} {index : Nat} (hcl : Cond.classLink M.1.cls index RX8 ∈ lw_U) (hov : Cond.arrayOver (.object RX8) ∈ lw_U) (hd : decode M.2.1 pc = .ok (.anewarray index, 3)) : Snd M pc (oNewQ 3) := by
  intro p l e R s m args below meth c Q D cA A F ad H locs cells slots Ls ls st h ob dc ds cf hop hob hdc hds L kk
  obtain ⟨hx, hb, hml, hown, hts, hin, hfr, hlo⟩ := F
  obtain ⟨hK, hP, hD, hS, hL, hSx, hA⟩ := id L
  dsimp only [oNewQ] at hop
  split at hop
  · next x st0 =>
    cases hop
    obtain ⟨⟨hn, hw1, hw2, hw3⟩, hx0, hx1, -⟩ := hob
    refine va_newq (C := RX8) hx hb hown (hts _ hcl) (va_AO.of (hts _ hov)) hK hP hD hS hA hx0 rfl (lN_five hx1 4 (by decide)) hdc hds hd (fun q c9 H1 hK1 hP1 hD1 hS1 => ?_)
    have e9 : c9 = cA 3 := by
      obtain ⟨-, -, -, -, -, g1⟩ := (hK1.2 5 _ rfl).2
      obtain ⟨-, -, -, -, -, g2⟩ := (hK.2 3 _ rfl).2
      exact Option.some.inj (g1.symm.trans g2)
    subst e9
    rw [show ((q, .inl (cA 3, x.toNatClampNeg, .inr (.inr (.inr (.inr (fun _ => none)))))) : Nat × va_E) = (upA ad h.length q h.length, trE (upA ad h.length q) cA (.inl (3, x.toNatClampNeg, .inr (.inr (.inr (.inr (fun _ => none))))))) from by rw [upA_self]; rfl, ← wd_up hn hw3, ← wd_push] at hP1 hD1
    have k9 := kk (by simp) (upA ad h.length q) H1 locs Ls (by simpa using Ext.up) ⟨hK, hP1, hD1, hS1, hL.up hn hw1, hSx.ext (fun k h9 => upA_lt (Or.inr h9) hn), hA⟩
    dsimp only at k9
    rw [List.map_cons, trV_ref, upA_self, st_up hn hw2] at k9
    exact k9
  · cases hop
set_option maxHeartbeats 1000000 in
theorem sd_newQ4 {M : MI} {pc : Nat} {index : Nat} (hcl : Cond.classLink M.1.cls index RX9 ∈ lw_U) (hov : Cond.arrayOver (.object RX9) ∈ lw_U) (hd : decode M.2.1 pc = .ok (.anewarray index, 3)) : Snd M pc (oNewQ 4) := by
  intro p l e R s m args below meth c Q D cA A F ad H locs cells slots Ls ls st h ob dc ds cf hop hob hdc hds L kk
  obtain ⟨hx, hb, hml, hown, hts, hin, hfr, hlo⟩ := F
  obtain ⟨hK, hP, hD, hS, hL, hSx, hA⟩ := id L
  dsimp only [oNewQ] at hop
  split at hop
  · next x st0 =>
    cases hop
    obtain ⟨⟨hn, hw1, hw2, hw3⟩, hx0, hx1, -⟩ := hob
    refine va_newq (C := RX9) hx hb hown (hts _ hcl) (va_AO.of (hts _ hov)) hK hP hD hS hA hx0 rfl (lN_five hx1 4 (by decide)) hdc hds hd (fun q c9 H1 hK1 hP1 hD1 hS1 => ?_)
    have e9 : c9 = cA 4 := by
      obtain ⟨-, -, -, -, -, g1⟩ := (hK1.2 5 _ rfl).2
      obtain ⟨-, -, -, -, -, g2⟩ := (hK.2 4 _ rfl).2
      exact Option.some.inj (g1.symm.trans g2)
    subst e9
    rw [show ((q, .inl (cA 4, x.toNatClampNeg, .inr (.inr (.inr (.inr (fun _ => none)))))) : Nat × va_E) = (upA ad h.length q h.length, trE (upA ad h.length q) cA (.inl (4, x.toNatClampNeg, .inr (.inr (.inr (.inr (fun _ => none))))))) from by rw [upA_self]; rfl, ← wd_up hn hw3, ← wd_push] at hP1 hD1
    have k9 := kk (by simp) (upA ad h.length q) H1 locs Ls (by simpa using Ext.up) ⟨hK, hP1, hD1, hS1, hL.up hn hw1, hSx.ext (fun k h9 => upA_lt (Or.inr h9) hn), hA⟩
    dsimp only at k9
    rw [List.map_cons, trV_ref, upA_self, st_up hn hw2] at k9
    exact k9
  · cases hop
theorem sumc_tr (ad : Nat → Nat) (l : List Value) : ((l.map (trV ad)).map fun v => v.category).sum = sumc l := by
  rw [sumc_eq]
  induction l with
  | nil => rfl
  | cons v t ih => simp [sumc, ih, trV_cat]

set_option maxHeartbeats 1000000 in
theorem sd_max {M : MI} {pc : Nat} {index : Nat} (hl : Cond.methodLink M.1.cls index Lib.Math.max.name ∈ lw_U) (hs0 : Cond.static Lib.Math.max.name ∈ lw_U) (hi0 : Cond.initialized "java/lang/Math" ∈ lw_U) (hc0 : Cond.code Lib.Math.max.name Lib.Math.max.code 2 (some .int) ∈ lw_U) (hd : decode M.2.1 pc = .ok (.invokestatic index, 3)) : Snd M pc (oMax) := by
  intro p l e R s m args below meth c Q D cA A F ad H locs cells slots Ls ls st h ob dc ds cf hop hob hdc hds L kk
  obtain ⟨hx, hb, hml, hown, hts, hin, hfr, hlo⟩ := F
  obtain ⟨hK, hP, hD, hS, hL, hSx, hA⟩ := id L
  dsimp only [oMax] at hop
  split at hop
  · next y x st0 =>
    cases ho : Nat.ble (sumc st0) 8 with
    | false => rw [ho] at hop; cases hop
    | true =>
      rw [ho] at hop
      cases hop
      have e0 := Nat.le_of_ble_eq_true ho
      exact va_mmax hx hb (hml.trans hL.2.1.symm) hown (hts _ hl) (hts _ hs0) (hts _ hi0) (hts _ hc0) hfr (by rw [sumc_tr]; omega) (by omega) (by omega) hd (kk (Nat.le_refl _) ad H locs Ls Ext.rf L)
  · cases hop
set_option maxHeartbeats 1000000 in
theorem sd_min {M : MI} {pc : Nat} {index : Nat} (hl : Cond.methodLink M.1.cls index Lib.Math.min.name ∈ lw_U) (hs0 : Cond.static Lib.Math.min.name ∈ lw_U) (hi0 : Cond.initialized "java/lang/Math" ∈ lw_U) (hc0 : Cond.code Lib.Math.min.name Lib.Math.min.code 2 (some .int) ∈ lw_U) (hd : decode M.2.1 pc = .ok (.invokestatic index, 3)) : Snd M pc (oMin) := by
  intro p l e R s m args below meth c Q D cA A F ad H locs cells slots Ls ls st h ob dc ds cf hop hob hdc hds L kk
  obtain ⟨hx, hb, hml, hown, hts, hin, hfr, hlo⟩ := F
  obtain ⟨hK, hP, hD, hS, hL, hSx, hA⟩ := id L
  dsimp only [oMin] at hop
  split at hop
  · next y x st0 =>
    cases ho : Nat.ble (sumc st0) 8 with
    | false => rw [ho] at hop; cases hop
    | true =>
      rw [ho] at hop
      cases hop
      have e0 := Nat.le_of_ble_eq_true ho
      exact va_mmin hx hb (hml.trans hL.2.1.symm) hown (hts _ hl) (hts _ hs0) (hts _ hi0) (hts _ hc0) hfr (by rw [sumc_tr]; omega) (by omega) (by omega) hd (kk (Nat.le_refl _) ad H locs Ls Ext.rf L)
  · cases hop
theorem nfw0 : nativeFrameWords "java/lang/System" "arraycopy" 5 + 11 ≤ 50 := by decide +kernel
theorem nfw {a r : Nat} (h : a ≤ 8) (hr : 60 ≤ r) : a + (nativeFrameWords "java/lang/System" "arraycopy" 5 + 11) ≤ r := by
  have := nfw0
  omega

set_option maxHeartbeats 1000000 in
theorem sd_copy {M : MI} {pc : Nat} {index : Nat} (hl : Cond.methodLink M.1.cls index arraycopyName ∈ lw_U) (hn0 : Cond.native arraycopyName ∈ lw_U) (hs0 : Cond.static arraycopyName ∈ lw_U) (hi0 : Cond.initialized "java/lang/System" ∈ lw_U) (hd : decode M.2.1 pc = .ok (.invokestatic index, 3)) : Snd M pc (oCopy) := by
  intro p l e R s m args below meth c Q D cA A F ad H locs cells slots Ls ls st h ob dc ds cf hop hob hdc hds L kk
  obtain ⟨hx, hb, hml, hown, hts, hin, hfr, hlo⟩ := F
  obtain ⟨hK, hP, hD, hS, hL, hSx, hA⟩ := id L
  dsimp only [oCopy] at hop
  split at hop
  · next n dp b sp a st0 =>
    split at hop
    · next k na f hx2 =>
      split at hop
      · next j nb g hx3 =>
        cases ho : (Nat.beq k 0 && (Nat.beq j 0 && Nat.ble (sumc st0) 8)) with
        | false => rw [ho] at hop; cases hop
        | true =>
          rw [ho] at hop
          rw [Bool.and_eq_true, Bool.and_eq_true] at ho
          have e0 := Nat.eq_of_beq_eq_true ho.1
          have e1 := Nat.eq_of_beq_eq_true ho.2.1
          have e2 := Nat.le_of_ble_eq_true ho.2.2
          subst e0
          subst e1
          cases hop
          obtain ⟨h1, h2, h3, h4, h5, -⟩ := hob
          refine va_copyi hx hb (hml.trans hL.2.1.symm) hown (hts _ hl) (hts _ hn0) (hts _ hs0) (hts _ hi0) hK hP hD hS a b 0 0 (wd_int hx2) (wd_int hx3) rfl rfl rfl h1 h2 h3 h4 h5 (fun _ _ => rfl) hfr (by rw [sumc_tr]; exact nfw e2 hlo) hd (fun H1 locs1 hP1 hD1 hS1 => ?_)
          rw [wd_setI] at hP1 hD1
          exact kk (by simp) ad H1 locs1 Ls Ext.rf ⟨hK, hP1, hD1, hS1, hL, hSx, hA⟩
      · cases hop
    · cases hop
  · cases hop
set_option maxHeartbeats 1000000 in
theorem sd_clone {M : MI} {pc : Nat} {index : Nat} (hl : Cond.methodLink M.1.cls index ⟨"[I", "clone", "()Ljava/lang/Object;"⟩ ∈ lw_U) (hs0 : Cond.sameMethod "[I" "java/lang/Object" "clone" "()Ljava/lang/Object;" ∈ lw_U) (hn0 : Cond.native ⟨"java/lang/Object", "clone", "()Ljava/lang/Object;"⟩ ∈ lw_U) (hi0 : Cond.instanceMethod ⟨"java/lang/Object", "clone", "()Ljava/lang/Object;"⟩ ∈ lw_U) (hse : Cond.selects "[I" ⟨"[I", "clone", "()Ljava/lang/Object;"⟩ ⟨"java/lang/Object", "clone", "()Ljava/lang/Object;"⟩ ∈ lw_U) (hca : Cond.castable "[I" "java/lang/Cloneable" ∈ lw_U) (hd : decode M.2.1 pc = .ok (.invokevirtual index, 3)) : Snd M pc (oClone) := by
  intro p l e R s m args below meth c Q D cA A F ad H locs cells slots Ls ls st h ob dc ds cf hop hob hdc hds L kk
  obtain ⟨hx, hb, hml, hown, hts, hin, hfr, hlo⟩ := F
  obtain ⟨hK, hP, hD, hS, hL, hSx, hA⟩ := id L
  dsimp only [oClone] at hop
  split at hop
  · next a st0 =>
    split at hop
    · next k n0 f hx2 =>
      cases ho : (Nat.beq k 0 && Nat.ble (sumc st0) 8) with
      | false => rw [ho] at hop; cases hop
      | true =>
        rw [ho] at hop
        rw [Bool.and_eq_true] at ho
        have e0 := Nat.eq_of_beq_eq_true ho.1
        have e2 := Nat.le_of_ble_eq_true ho.2
        subst e0
        cases hop
        obtain ⟨⟨hn, hw1, hw2, hw3⟩, hx1, -⟩ := hob
        have hw2 := fun v hv => hw2 v (List.mem_cons_of_mem _ hv)
        refine va_clone (x := (ds, .inl f)) (ty := .int) hx hb (hml.trans hL.2.1.symm) hown (hts _ hl) (hts _ hs0) (hts _ hn0) (hts _ hi0) (hts _ hse) (va_Nw.of rfl (hts _ hca)) hK hP hD hS hA a 0 (wd_int hx2) rfl (hK.2 0 _ rfl).2 (fun i v hv => ?_) hfr (by rw [sumc_tr]; omega) hdc hds hd (fun q H1 hK1 hP1 hD1 hS1 => ?_)
        · rw [vp_cell_i] at hv
          by_cases hi : i < ds
          · rw [arrV_read _ _ hi] at hv
            cases hv
            rfl
          · have hz := (Array.getElem?_eq_some_iff.mp hv).1
            rw [arrV_size] at hz
            exact absurd hz hi
        · rw [show ((q, .inl (cA 0, ds, .inl f)) : Nat × va_E) = (upA ad h.length q h.length, trE (upA ad h.length q) cA (.inl (0, ds, .inl f))) from by rw [upA_self]; rfl, ← wd_up hn hw3, ← wd_push] at hP1 hD1
          have k9 := kk (by simp) (upA ad h.length q) H1 locs Ls (by simpa using Ext.up) ⟨hK, hP1, hD1, hS1, hL.up hn hw1, hSx.ext (fun k h9 => upA_lt (Or.inr h9) hn), hA⟩
          dsimp only at k9
          rw [List.map_cons, trV_ref, upA_self, st_up hn hw2] at k9
          exact k9
    · cases hop
  · cases hop
set_option maxHeartbeats 1000000 in
theorem sd_castI {M : MI} {pc : Nat} {index : Nat} (hl : Cond.classLink M.1.cls index "[I" ∈ lw_U) (hd : decode M.2.1 pc = .ok (.checkcast index, 3)) : Snd M pc (oCastI) := by
  intro p l e R s m args below meth c Q D cA A F ad H locs cells slots Ls ls st h ob dc ds cf hop hob hdc hds L kk
  obtain ⟨hx, hb, hml, hown, hts, hin, hfr, hlo⟩ := F
  obtain ⟨hK, hP, hD, hS, hL, hSx, hA⟩ := id L
  dsimp only [oCastI] at hop
  split at hop
  · next a st0 =>
    split at hop
    · next k x0 hx2 =>
      cases ho : Nat.beq k 0 with
      | false => rw [ho] at hop; cases hop
      | true =>
        rw [ho] at hop
        have e0 := Nat.eq_of_beq_eq_true ho
        subst e0
        cases hop
        have hw := wd_at (ad := ad) (cA := cA) hx2
        rcases x0 with ⟨n, f | f | f | f | f⟩ <;> exact va_castA hx hb hown (hts _ hl) hP a hw (hK.2 0 _ rfl).2 hd (kk (Nat.le_refl _) ad H locs Ls Ext.rf L)
    · cases hop
  · cases hop
set_option maxHeartbeats 1000000 in
theorem sd_ldcS {M : MI} {pc : Nat} {index i : Nat} {tx : String} (hi : strK[i]? = some (M.1.cls, index, tx)) (hd : decode M.2.1 pc = .ok (.ldc index, 2)) : Snd M pc (oPush (.ref (sB + i)) 2) := by
  intro p l e R s m args below meth c Q D cA A F ad H locs cells slots Ls ls st h ob dc ds cf hop hob hdc hds L kk
  obtain ⟨hx, hb, hml, hown, hts, hin, hfr, hlo⟩ := F
  obtain ⟨hK, hP, hD, hS, hL, hSx, hA⟩ := id L
  cases hop
  exact va_ldcS hx hb hown (hSx.2.1 i _ hi) hd (kk (Nat.le_refl _) ad H locs Ls Ext.rf L)
set_option maxHeartbeats 1000000 in
theorem sd_compact {M : MI} {pc : Nat} {index : Nat} (hl : Cond.fieldLink M.1.cls index "java/lang/String" "COMPACT_STRINGS" "Z" ∈ lw_U) (hd : decode M.2.1 pc = .ok (.getstatic index, 3)) : Snd M pc (oPush (.int 1) 3) := by
  intro p l e R s m args below meth c Q D cA A F ad H locs cells slots Ls ls st h ob dc ds cf hop hob hdc hds L kk
  obtain ⟨hx, hb, hml, hown, hts, hin, hfr, hlo⟩ := F
  obtain ⟨hK, hP, hD, hS, hL, hSx, hA⟩ := id L
  cases hop
  exact va_gets hx hb hSx.2.2.1 hS hown (hts _ hl) (fun _ h9 => h9) hd (kk (Nat.le_refl _) ad H locs Ls Ext.rf L)
set_option maxHeartbeats 1000000 in
theorem sd_under {M : MI} {pc : Nat} {index : Nat} (hl : Cond.fieldLink M.1.cls index RX1 "UNDER" "[I" ∈ lw_U) (hd : decode M.2.1 pc = .ok (.getstatic index, 3)) : Snd M pc (oPush (.ref (sB + 200)) 3) := by
  intro p l e R s m args below meth c Q D cA A F ad H locs cells slots Ls ls st h ob dc ds cf hop hob hdc hds L kk
  obtain ⟨hx, hb, hml, hown, hts, hin, hfr, hlo⟩ := F
  obtain ⟨hK, hP, hD, hS, hL, hSx, hA⟩ := id L
  cases hop
  exact va_gets hx hb hSx.2.2.2.1 hS hown (hts _ hl) (fun _ h9 => h9) hd (kk (Nat.le_refl _) ad H locs Ls Ext.rf L)
set_option maxHeartbeats 1000000 in
theorem sd_strVal {M : MI} {pc : Nat} {index : Nat} (hl : Cond.fieldLink M.1.cls index "java/lang/String" "value" "[B" ∈ lw_U) (hd : decode M.2.1 pc = .ok (.getfield index, 3)) : Snd M pc (oStrVal) := by
  intro p l e R s m args below meth c Q D cA A F ad H locs cells slots Ls ls st h ob dc ds cf hop hob hdc hds L kk
  obtain ⟨hx, hb, hml, hown, hts, hin, hfr, hlo⟩ := F
  obtain ⟨hK, hP, hD, hS, hL, hSx, hA⟩ := id L
  dsimp only [oStrVal] at hop
  split at hop
  · next a st0 =>
    cases ho : (Nat.ble sB a && Nat.blt a (sB + 13)) with
    | false => rw [ho] at hop; cases hop
    | true =>
      rw [ho] at hop
      rw [Bool.and_eq_true] at ho
      have e0 := Nat.le_of_ble_eq_true ho.1
      have e1 := Nat.blt_eq.mp ho.2
      obtain ⟨i9, ei9⟩ : ∃ i9 : Nat, sB + i9 = a := ⟨(a : Nat) - (sB), Nat.add_sub_cancel' e0⟩
      subst ei9
      cases hop
      have h13 : i9 < 13 := by clear kk; omega
      have k9 := kk (Nat.le_refl _) ad H locs Ls Ext.rf L
      have k9 := k9
      dsimp only at k9
      rw [List.map_cons, trV_ref, show sB + i9 + 100 = sB + 100 + i9 from by omega] at k9
      exact vk_getf hx hb (hSx.1.1 i9 h13).2.2.1 hS hown (hts _ hl) (fun _ h9 => h9) hd k9
  · cases hop
set_option maxHeartbeats 1000000 in
theorem sd_strCod {M : MI} {pc : Nat} {index : Nat} (hl : Cond.fieldLink M.1.cls index "java/lang/String" "coder" "B" ∈ lw_U) (hd : decode M.2.1 pc = .ok (.getfield index, 3)) : Snd M pc (oStrCod) := by
  intro p l e R s m args below meth c Q D cA A F ad H locs cells slots Ls ls st h ob dc ds cf hop hob hdc hds L kk
  obtain ⟨hx, hb, hml, hown, hts, hin, hfr, hlo⟩ := F
  obtain ⟨hK, hP, hD, hS, hL, hSx, hA⟩ := id L
  dsimp only [oStrCod] at hop
  split at hop
  · next a st0 =>
    cases ho : (Nat.ble sB a && Nat.blt a (sB + 13)) with
    | false => rw [ho] at hop; cases hop
    | true =>
      rw [ho] at hop
      rw [Bool.and_eq_true] at ho
      have e0 := Nat.le_of_ble_eq_true ho.1
      have e1 := Nat.blt_eq.mp ho.2
      obtain ⟨i9, ei9⟩ : ∃ i9 : Nat, sB + i9 = a := ⟨(a : Nat) - (sB), Nat.add_sub_cancel' e0⟩
      subst ei9
      cases hop
      have h13 : i9 < 13 := by clear kk; omega
      have k9 := kk (Nat.le_refl _) ad H locs Ls Ext.rf L
      exact vk_getf hx hb (hSx.1.1 i9 h13).2.1 hS hown (hts _ hl) (fun _ h9 => h9) hd k9
  · cases hop
set_option maxHeartbeats 1000000 in
theorem sd_strLen {M : MI} {pc : Nat} (hd : decode M.2.1 pc = .ok (.arraylength, 1)) : Snd M pc (oStrLen) := by
  intro p l e R s m args below meth c Q D cA A F ad H locs cells slots Ls ls st h ob dc ds cf hop hob hdc hds L kk
  obtain ⟨hx, hb, hml, hown, hts, hin, hfr, hlo⟩ := F
  obtain ⟨hK, hP, hD, hS, hL, hSx, hA⟩ := id L
  dsimp only [oStrLen] at hop
  split at hop
  · next a st0 =>
    cases ho : (Nat.ble (sB + 100) a && Nat.blt a (sB + 113)) with
    | false => rw [ho] at hop; cases hop
    | true =>
      rw [ho] at hop
      rw [Bool.and_eq_true] at ho
      have e0 := Nat.le_of_ble_eq_true ho.1
      have e1 := Nat.blt_eq.mp ho.2
      obtain ⟨i9, ei9⟩ : ∃ i9 : Nat, (sB + 100) + i9 = a := ⟨(a : Nat) - ((sB + 100)), Nat.add_sub_cancel' e0⟩
      subst ei9
      cases hop
      have h13 : i9 < 13 := by clear kk; omega
      have k9 := kk (Nat.le_refl _) ad H locs Ls Ext.rf L
      rw [show sB + 100 + i9 - (sB + 100) = i9 from by omega] at k9
      exact va_tlen hx hb (hSx.1.1 i9 h13).2.2.2 hS rfl hd k9
  · cases hop
set_option maxHeartbeats 1000000 in
theorem sd_strLd {M : MI} {pc : Nat} (hd : decode M.2.1 pc = .ok (.baload, 1)) : Snd M pc (oStrLd) := by
  intro p l e R s m args below meth c Q D cA A F ad H locs cells slots Ls ls st h ob dc ds cf hop hob hdc hds L kk
  obtain ⟨hx, hb, hml, hown, hts, hin, hfr, hlo⟩ := F
  obtain ⟨hK, hP, hD, hS, hL, hSx, hA⟩ := id L
  dsimp only [oStrLd] at hop
  split at hop
  · next i a st0 =>
    cases ho : (Nat.ble (sB + 100) a && Nat.blt a (sB + 113)) with
    | false => rw [ho] at hop; cases hop
    | true =>
      rw [ho] at hop
      rw [Bool.and_eq_true] at ho
      have e0 := Nat.le_of_ble_eq_true ho.1
      have e1 := Nat.blt_eq.mp ho.2
      obtain ⟨i9, ei9⟩ : ∃ i9 : Nat, (sB + 100) + i9 = a := ⟨(a : Nat) - ((sB + 100)), Nat.add_sub_cancel' e0⟩
      subst ei9
      cases hop
      have h13 : i9 < 13 := by clear kk; omega
      have k9 := kk (Nat.le_refl _) ad H locs Ls Ext.rf L
      rw [show sB + 100 + i9 - (sB + 100) = i9 from by omega] at k9 hob
      exact va_tb hx hb (hSx.1.1 i9 h13).2.2.2 hS hob.1 rfl hd k9
  · cases hop
set_option maxHeartbeats 1000000 in
theorem sd_undLen {M : MI} {pc : Nat} (hd : decode M.2.1 pc = .ok (.arraylength, 1)) : Snd M pc (oUndLen) := by
  intro p l e R s m args below meth c Q D cA A F ad H locs cells slots Ls ls st h ob dc ds cf hop hob hdc hds L kk
  obtain ⟨hx, hb, hml, hown, hts, hin, hfr, hlo⟩ := F
  obtain ⟨hK, hP, hD, hS, hL, hSx, hA⟩ := id L
  dsimp only [oUndLen] at hop
  split at hop
  · next a st0 =>
    cases ho : Nat.beq a (sB + 200) with
    | false => rw [ho] at hop; cases hop
    | true =>
      rw [ho] at hop
      have e0 := Nat.eq_of_beq_eq_true ho
      subst e0
      cases hop
      exact va_tlen hx hb hSx.2.2.2.2.1 hS rfl hd (kk (Nat.le_refl _) ad H locs Ls Ext.rf L)
  · cases hop
set_option maxHeartbeats 1000000 in
theorem sd_undLd {M : MI} {pc : Nat} (hd : decode M.2.1 pc = .ok (.iaload, 1)) : Snd M pc (oUndLd) := by
  intro p l e R s m args below meth c Q D cA A F ad H locs cells slots Ls ls st h ob dc ds cf hop hob hdc hds L kk
  obtain ⟨hx, hb, hml, hown, hts, hin, hfr, hlo⟩ := F
  obtain ⟨hK, hP, hD, hS, hL, hSx, hA⟩ := id L
  dsimp only [oUndLd] at hop
  split at hop
  · next i a st0 =>
    cases ho : Nat.beq a (sB + 200) with
    | false => rw [ho] at hop; cases hop
    | true =>
      rw [ho] at hop
      have e0 := Nat.eq_of_beq_eq_true ho
      subst e0
      cases hop
      exact va_ti hx hb hSx.2.2.2.2.1 hS hob.1 rfl hd (kk (Nat.le_refl _) ad H locs Ls Ext.rf L)
  · cases hop
/-- a table of places for the keys lo, lo + 1, .. -/
def swOk (pc : Nat) (offs : Array Int) : Int → Nat → List (Int32 × Nat) → Bool
  | _, _, [] => true
  | lo, i, q :: t => (q.1 == Int32.ofInt lo) && ((offs[i]? == some ((q.2 : Int) - (pc : Int))) && swOk pc offs (lo + 1) (i + 1) t)
theorem swT_in {pc : Nat} {offs : Array Int} (d : Nat) : ∀ (ts : List (Int32 × Nat)) (lo : Int) (i : Nat), swOk pc offs lo i ts = true → -1000 ≤ lo → lo + ts.length ≤ 1000 → ∀ (j : Nat) (x : Int32), j < ts.length → x.toInt = lo + j → offs[i + j]? = some ((swT x d ts : Int) - (pc : Int))
  | [], _, _, _, _, _, j, _, hj, _ => absurd hj (Nat.not_lt_zero j)
  | q :: t, lo, i, h, h1, h2, j, x, hj, hx => by
    simp only [swOk, Bool.and_eq_true, beq_iff_eq] at h
    rw [List.length_cons] at hj h2
    have hq : q.1.toInt = lo := by rw [h.1, Int32.toInt_ofInt_of_le (by omega) (by omega)]
    cases j with
    | zero =>
      have e : x = q.1 := Int32.toInt_inj.mp (by rw [hx, hq]; simp)
      unfold swT
      rw [if_pos e]
      exact h.2.1
    | succ j =>
      have e : ¬ x = q.1 := by
        intro z
        rw [z, hq] at hx
        push_cast at hx
        omega
      unfold swT
      rw [if_neg e]
      have := swT_in d t (lo + 1) (i + 1) h.2.2 (by omega) (by push_cast at h2; omega) j x (by omega) (by rw [hx]; push_cast; omega)
      rw [show i + (j + 1) = i + 1 + j by omega]
      exact this
theorem swT_out {pc : Nat} {offs : Array Int} (d : Nat) : ∀ (ts : List (Int32 × Nat)) (lo : Int) (i : Nat), swOk pc offs lo i ts = true → -1000 ≤ lo → lo + ts.length ≤ 1000 → ∀ (x : Int32), (x.toInt < lo ∨ lo + ts.length ≤ x.toInt) → swT x d ts = d
  | [], _, _, _, _, _, _, _ => rfl
  | q :: t, lo, i, h, h1, h2, x, hx => by
    simp only [swOk, Bool.and_eq_true, beq_iff_eq] at h
    rw [List.length_cons] at hx h2
    have hq : q.1.toInt = lo := by rw [h.1, Int32.toInt_ofInt_of_le (by omega) (by omega)]
    unfold swT
    rw [if_neg (by intro z; rw [z, hq] at hx; push_cast at hx; omega)]
    exact swT_out d t (lo + 1) (i + 1) h.2.2 (by omega) (by push_cast at h2; omega) x (by push_cast at hx; omega)

set_option maxHeartbeats 1000000 in
theorem sd_tsw {M : MI} {pc : Nat} {dflt lo hi : Int} {offs : Array Int} {len d : Nat} {ts : List (Int32 × Nat)} (hd : decode M.2.1 pc = .ok (.tableswitch dflt lo hi offs, len)) (hok : (swOk pc offs lo 0 ts && (decide (lo + ts.length = hi + 1) && (decide (-1000 ≤ lo) && (decide (hi < 1000) && decide ((pc : Int) + dflt = (d : Int)))))) = true) : Snd M pc (oSw ts d) := by
  intro p l e R s m args below meth c Q D cA A F ad H locs cells slots Ls ls st h ob dc ds cf hop hob hdc hds L kk
  obtain ⟨hx, hb, hml, hown, hts, hin, hfr, hlo⟩ := F
  obtain ⟨hK, hP, hD, hS, hL, hSx, hA⟩ := id L
  simp only [Bool.and_eq_true, decide_eq_true_eq] at hok
  obtain ⟨ok1, ok2, ok3, ok4, ok5⟩ := hok
  dsimp only [oSw] at hop
  split at hop
  · next x st0 =>
    cases hop
    have k9 := kk (Nat.le_refl _) ad H locs Ls Ext.rf L
    dsimp only at k9
    by_cases hr : x.toInt < lo ∨ hi < x.toInt
    · rw [swT_out d ts lo 0 ok1 ok3 (by omega) x (by omega)] at k9
      exact lv_tableOut hx hb hd hr ok5 k9
    · have hr1 : ¬ x.toInt < lo := fun z => hr (Or.inl z)
      have hr2 : ¬ hi < x.toInt := fun z => hr (Or.inr z)
      have hj := swT_in d ts lo 0 ok1 ok3 (by omega) (x.toInt - lo).toNat x (by omega) (by omega)
      rw [Nat.zero_add] at hj
      exact lv_tableIn hx hb hd hr1 hr2 hj (by omega) k9
  · cases hop
set_option maxHeartbeats 1000000 in
theorem sd_lsw {M : MI} {pc : Nat} {dflt : Int} {ps : Array (Int × Int)} {len d : Nat} {ts : List (Int32 × Nat)} (hd : decode M.2.1 pc = .ok (.lookupswitch dflt ps, len)) (hp : (ps.toList.zip (ps.toList.drop 1)).all (fun (a, next) => a.1 < next.1) = true) (ho : ∀ x : Int32, (pc : Int) + Op.lookupswitch.offset ps.toList dflt x.toInt = (swT x d ts : Int)) : Snd M pc (oSw ts d) := by
  intro p l e R s m args below meth c Q D cA A F ad H locs cells slots Ls ls st h ob dc ds cf hop hob hdc hds L kk
  obtain ⟨hx, hb, hml, hown, hts, hin, hfr, hlo⟩ := F
  obtain ⟨hK, hP, hD, hS, hL, hSx, hA⟩ := id L
  dsimp only [oSw] at hop
  split at hop
  · next x st0 =>
    cases hop
    exact lv_lookup hx hb hd hp rfl (ho x) (kk (Nat.le_refl _) ad H locs Ls Ext.rf L)
  · cases hop
