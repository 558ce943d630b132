/-! ===== short forms ===== -/
abbrev pI (n : Nat) (f : Nat → Int32) : va_E := .inl (0, n, .inl f)
abbrev pZ (n : Nat) (f : Nat → Int32) : va_E := .inl (1, n, .inl f)
abbrev pQ (k n : Nat) (f : Nat → Option Nat) : va_E := .inl (k, n, .inr (.inr (.inr (.inr f))))
abbrev pO (ci : Nat) (fs : List Value) : va_E := .inr (ci, fs)
theorem P0.b {d mc ms : Nat} {M : MI} {Q : Option Value → PH → Prop} (hG : Good M) (n : Nat) {cf cf' : CF} {ob : List Prop} (h : runN n M cf = some (ob, 0, 0, cf')) (ho : AllP ob) (k : P0 d mc ms M cf' Q) : P0 d mc ms M cf Q := P0.blk hG n h ho k
theorem P0.if {d mc ms : Nat} {M : MI} {Q : Option Value → PH → Prop} {c : Prop} [Decidable c] {a b : Nat} {ls : List (Option Value)} {st : List Value} {h : PH} (h1 : c → P0 d mc ms M (a, ls, st, h) Q) (h2 : ¬ c → P0 d mc ms M (b, ls, st, h) Q) : P0 d mc ms M (if c then a else b, ls, st, h) Q := by
  by_cases hc : c
  · rw [if_pos hc]; exact h1 hc
  · rw [if_neg hc]; exact h2 hc
theorem P0.ri {d mc ms : Nat} {M : MI} {Q : Option Value → PH → Prop} {pc : Nat} {v : Int32} {ty : FieldType} {ls : List (Option Value)} {h : PH} (hd : decode M.2.1 pc = .ok (.ireturn, 1)) (hr : M.2.2.2.1 = some ty) (hn : narrow ty (.int v) = .int v) (hQ : Q (some (.int v)) h) : P0 d mc ms M (pc, ls, [.int v], h) Q :=
  P0.mono (P0.ret (Or.inl ⟨hd, v, ty, rfl, hr, hn, rfl⟩) hQ) (Nat.le_refl _) (Nat.zero_le _) (Nat.zero_le _) (fun _ _ q => q)
theorem P0.rl {d mc ms : Nat} {M : MI} {Q : Option Value → PH → Prop} {pc : Nat} {v : Int64} {ls : List (Option Value)} {h : PH} (hd : decode M.2.1 pc = .ok (.lreturn, 1)) (hr : M.2.2.2.1 = some .long) (hQ : Q (some (.long v)) h) : P0 d mc ms M (pc, ls, [.long v], h) Q :=
  P0.mono (P0.ret (Or.inr (Or.inl ⟨hd, v, rfl, hr, rfl⟩)) hQ) (Nat.le_refl _) (Nat.zero_le _) (Nat.zero_le _) (fun _ _ q => q)
theorem P0.ra {d mc ms : Nat} {M : MI} {Q : Option Value → PH → Prop} {pc : Nat} {v : Value} {rt : FieldType} {ls : List (Option Value)} {h : PH} (hd : decode M.2.1 pc = .ok (.areturn, 1)) (hr : M.2.2.2.1 = some rt) (ht : (∃ n, rt = .object n) ∨ ∃ t, rt = .array t) (hv : v = .null ∨ ∃ a, v = .ref a) (hQ : Q (some v) h) : P0 d mc ms M (pc, ls, [v], h) Q :=
  P0.mono (P0.ret (Or.inr (Or.inr (Or.inl ⟨hd, v, rt, rfl, hr, ht, hv, rfl⟩))) hQ) (Nat.le_refl _) (Nat.zero_le _) (Nat.zero_le _) (fun _ _ q => q)
theorem P0.rv {d mc ms : Nat} {M : MI} {Q : Option Value → PH → Prop} {pc : Nat} {ls : List (Option Value)} {h : PH} (hd : decode M.2.1 pc = .ok (.return_, 1)) (hr : M.2.2.2.1 = none) (hQ : Q none h) : P0 d mc ms M (pc, ls, [], h) Q :=
  P0.mono (P0.ret (Or.inr (Or.inr (Or.inr ⟨hd, rfl, hr, rfl⟩))) hQ) (Nat.le_refl _) (Nat.zero_le _) (Nat.zero_le _) (fun _ _ q => q)
/-- a call over the same cells that makes none -/
theorem P0.cs {d mc2 ms2 : Nat} {M M' : MI} {pc kind n : Nat} {ls : List (Option Value)} {st rest as : List Value} {h : PH} {Q1 Q : Option Value → PH → Prop}
    (hG' : Good M') (hcall : CallAt M pc kind M' n) (hst : st = as.reverse ++ rest) (hargs : argsOk kind n M' h as) (hsum : sumc rest ≤ 8) (hsa : sumc as ≤ M'.2.2.1)
    (hsub : P0 d 0 0 M' (0, ent M'.2.2.1 as, [], h) Q1) (hl : h.length ≤ 999999) (hwf : ∀ r h', Q1 r h' → h'.length = h.length)
    (hk : ∀ r h', Q1 r h' → P0 (d + 1) mc2 ms2 M (pc + 3, ls, pushR r rest, h') Q) : P0 (d + 1) mc2 ms2 M (pc, ls, st, h) Q := by
  have := P0.callS (mc1 := 0) (ms1 := 0) (mc2 := mc2) (ms2 := ms2) hG' hcall hst hargs hsum hsa hsub (fun r h' q => ⟨by rw [hwf r h' q]; exact hl, Or.inl (hwf r h' q)⟩) (fun r h' q _ => hk r h' q)
  rw [Nat.zero_add, Nat.zero_add] at this
  exact this
/-- what a guarded row holds at i -/
def rowAt (n : Nat) (f : Nat → Int32) (i : Int32) : Int32 := if i < 0 then 0 else if Int32.ofNat n ≤ i then 0 else f i.toNatClampNeg
def rowPut (n : Nat) (f : Nat → Int32) (i x : Int32) : Nat → Int32 := if i < 0 then f else if Int32.ofNat n ≤ i then f else upd f i.toNatClampNeg x
theorem inRow {n : Nat} (hn : n < 2 ^ 31) {i : Int32} (h1 : ¬ i < 0) (h2 : ¬ Int32.ofNat n ≤ i) : vp_in i n := by
  intro h
  rcases h with h | h
  · exact h1 h
  · obtain ⟨j, hj, rfl⟩ := nI_of h1
    rw [nI_clamp hj] at h
    exact h2 (nI_le h hj)
theorem e_X5_at {n : Nat} (hn : n < 2 ^ 31) (f : Nat → Int32) (i : Int32) : P0 0 0 0 mX5_at (0, ent 2 [.ref 0, .int i], [], [pI n f]) (fun r h' => r = some (.int (rowAt n f i)) ∧ h' = [pI n f]) := by
  refine P0.b GX5_at 2 (ob := []) (cf' := (if i < 0 then 16 else 4, [some (.ref 0), some (.int i)], [], [pI n f])) rfl trivial ?_
  refine P0.if (fun h1 => ?_) (fun h1 => ?_)
  · refine P0.b GX5_at 1 (ob := []) (cf' := (17, [some (.ref 0), some (.int i)], [.int 0], [pI n f])) rfl trivial ?_
    exact P0.ri (by decide +kernel) rfl rfl ⟨by simp [rowAt, h1], rfl⟩
  · refine P0.b GX5_at 4 (ob := []) (cf' := (if Int32.ofNat n ≤ i then 16 else 10, [some (.ref 0), some (.int i)], [], [pI n f])) rfl trivial ?_
    refine P0.if (fun h2 => ?_) (fun h2 => ?_)
    · refine P0.b GX5_at 1 (ob := []) (cf' := (17, [some (.ref 0), some (.int i)], [.int 0], [pI n f])) rfl trivial ?_
      exact P0.ri (by decide +kernel) rfl rfl ⟨by simp [rowAt, h1, h2], rfl⟩
    · refine P0.b GX5_at 4 (ob := [vp_in i n]) (cf' := (17, [some (.ref 0), some (.int i)], [.int (f i.toNatClampNeg)], [pI n f])) rfl ⟨inRow hn h1 h2, trivial⟩ ?_
      exact P0.ri (by decide +kernel) rfl rfl ⟨by simp [rowAt, h1, h2], rfl⟩
/-- the reference's heap: whole numbers by their slots, rows by their cells, the token's worth -/
def hM (g : Nat → Int32) (w : Int64) (a : Nat → Nat → Int32) : PH :=
  [pO 8 [.int (g 0), .ref 1, .ref 2, .int (g 3), .int (g 4), .ref 3, .int (g 6), .int (g 7), .ref 4, .ref 5, .ref 6, .int (g 11), .int (g 12), .int (g 13), .int (g 14), .int (g 15), .int (g 16), .int (g 17), .int (g 18), .int (g 19), .int (g 20), .int (g 21), .int (g 22), .long w, .int (g 24), .int (g 25), .int (g 26), .ref 7, .ref 8, .ref 9, .ref 10, .ref 11, .ref 12, .ref 13, .int (g 34), .int (g 35), .int (g 36), .ref 14, .ref 15, .ref 16, .ref 17],
   pI 960 (a 1), pI 6 (a 2), pI 160 (a 3), pI 6 (a 4), pI 6 (a 5), pI 18 (a 6), pI 576 (a 7), pI 4096 (a 8), pI 96 (a 9), pI 4096 (a 10), pI 6 (a 11), pI 6 (a 12), pI 18 (a 13), pZ 4 (a 14), pI 4 (a 15), pI 4 (a 16), pI 160 (a 17)]
def up2 (a : Nat → Nat → Int32) (k : Nat) (f : Nat → Int32) : Nat → Nat → Int32 := fun j => if j = k then f else a j
def inI (v lo hi : Int64) : Int32 := if lg_cmp v lo < 0 then 0 else if 0 < lg_cmp v hi then 0 else 1
theorem e_X11_byteAt {g : Nat → Int32} {w : Int64} {a : Nat → Nat → Int32} (i : Int32) (hin : i < g 19 → vp_in (g 18 + i) 960) :
    P0 0 0 0 mX11_byteAt (0, ent 2 [.ref 0, .int i], [], hM g w a) (fun r h' => r = some (.int (if i < g 19 then a 1 (g 18 + i).toNatClampNeg else -1)) ∧ h' = hM g w a) := by
  refine P0.b GX11_byteAt 4 (ob := []) (cf' := (if g 19 ≤ i then 22 else 8, [some (.ref 0), some (.int i)], [], hM g w a)) rfl trivial ?_
  refine P0.if (fun h1 => ?_) (fun h1 => ?_)
  · refine P0.b GX11_byteAt 1 (ob := []) (cf' := (23, [some (.ref 0), some (.int i)], [.int (-1)], hM g w a)) rfl trivial ?_
    exact P0.ri (by decide +kernel) rfl rfl ⟨by rw [if_neg (Int32.not_lt.mpr h1)], rfl⟩
  · have h2 := Int32.not_le.mp h1
    refine P0.b GX11_byteAt 8 (ob := [vp_in (g 18 + i) 960]) (cf' := (23, [some (.ref 0), some (.int i)], [.int (a 1 (g 18 + i).toNatClampNeg)], hM g w a)) rfl ⟨hin h2, trivial⟩ ?_
    exact P0.ri (by decide +kernel) rfl rfl ⟨by rw [if_pos h2], rfl⟩
/-- a call over the same cells, with one end -/
theorem P0.cd {d0 d mc2 ms2 : Nat} {M M' : MI} {pc kind n : Nat} {ls : List (Option Value)} {st st' rest as : List Value} {h h1 : PH} {r1 : Option Value} {Q : Option Value → PH → Prop}
    (hG' : Good M') (hcall : CallAt M pc kind M' n) (hst : st = as.reverse ++ rest) (hargs : argsOk kind n M' h as) (hsum : sumc rest ≤ 8) (hsa : sumc as ≤ M'.2.2.1)
    (hsub : P0 d0 0 0 M' (0, ent M'.2.2.1 as, [], h) (fun r h' => r = r1 ∧ h' = h1)) (hd : d0 ≤ d) (hst' : pushR r1 rest = st') (hl : h.length ≤ 999999) (hl1 : h1.length = h.length)
    (hk : P0 (d + 1) mc2 ms2 M (pc + 3, ls, st', h1) Q) : P0 (d + 1) mc2 ms2 M (pc, ls, st, h) Q := by
  refine P0.cs (d := d) hG' hcall hst hargs hsum hsa (P0.mono hsub hd (Nat.le_refl _) (Nat.le_refl _) (fun _ _ q => q)) hl (fun r h' q => by rw [q.2]; exact hl1) ?_
  rintro r h' ⟨rfl, rfl⟩
  rw [hst']
  exact hk
def cellsOk (f : Nat → Nat) (h : PH) : List Nat → PH → Prop
  | [], [] => True
  | i :: is, c :: cs => lg h i = some (trE f (fun k => k) c) ∧ cellsOk f h is cs
  | _, _ => False
theorem cellsOk.get {f : Nat → Nat} {h : PH} : ∀ {is : List Nat} {cs : PH}, cellsOk f h is cs → is.length = cs.length ∧ ∀ (j k : Nat), is[j]? = some k → ∃ e : va_E, cs[j]? = some e ∧ h[k]? = some (trE f (fun k => k) e)
  | [], [], _ => ⟨rfl, fun j k hj => by simp at hj⟩
  | [], _ :: _, hc => hc.elim
  | _ :: _, [], hc => hc.elim
  | i :: is, c :: cs, hc => by
    obtain ⟨h1, h2⟩ := hc
    obtain ⟨g1, g2⟩ := cellsOk.get h2
    refine ⟨by simp [g1], fun j k hj => ?_⟩
    cases j with
    | zero =>
      simp only [List.getElem?_cons_zero, Option.some.injEq] at hj
      subst hj
      exact ⟨c, rfl, by rw [← lg_eq]; exact h1⟩
    | succ j =>
      rw [List.getElem?_cons_succ] at hj
      obtain ⟨e, q1, q2⟩ := g2 j k hj
      exact ⟨e, by rw [List.getElem?_cons_succ]; exact q1, q2⟩
/-- a call over some of the cells, that makes none, with one end -/
theorem P0.cr {d0 d mc2 ms2 : Nat} {M M' : MI} {pc kind n : Nat} {ls : List (Option Value)} {st st' rest as : List Value} {h h' hc hc1 : PH} {io : List Nat} {r1 : Option Value} {Q : Option Value → PH → Prop}
    (hG' : Good M') (hcall : CallAt M pc kind M' n) (hst : st = (as.map (trV (rnI io))).reverse ++ rest) (hargs : argsOk kind n M' hc as) (hsum : sumc rest ≤ 8) (hsa : sumc as ≤ M'.2.2.1)
    (hnd : va_nd io = true) (hcells : cellsOk (rnI io) h io hc)
    (hsub : P0 d0 0 0 M' (0, ent M'.2.2.1 as, [], hc) (fun r h' => r = r1 ∧ h' = hc1)) (hd : d0 ≤ d) (hst' : pushR (r1.map (trV (rnI io))) rest = st') (hl : hc.length ≤ 999999) (hl0 : h.length ≤ 999999) (hl1 : hc1.length = hc.length)
    (hh : putL h io (hc1.map (trE (rnI io) (fun k => k))) = h')
    (hk : P0 (d + 1) mc2 ms2 M (pc + 3, ls, st', h') Q) : P0 (d + 1) mc2 ms2 M (pc, ls, st, h) Q := by
  obtain ⟨g1, g2⟩ := hcells.get
  have := P0.call (mc1 := 0) (ms1 := 0) (mc2 := mc2) (ms2 := ms2) (d := d) (Q := Q) (ls := ls) hG' hcall hst hargs hsum hsa g1 hl hnd g2 (P0.mono hsub hd (Nat.le_refl _) (Nat.le_refl _) (fun _ _ q => q))
    (fun r hc' q => by rw [q.2, hl1]; exact ⟨by omega, hl, Or.inl rfl⟩) (fun r hc' q _ => by
      obtain ⟨rfl, rfl⟩ := q
      have e : newI io h.length (hc'.length - hc.length) = io := by rw [hl1, Nat.sub_self]; simp [newI]
      rw [e, hst', hh]
      exact hk)
  rw [Nat.zero_add, Nat.zero_add] at this
  exact this
theorem P0.sw {d mc ms : Nat} {M : MI} {Q : Option Value → PH → Prop} {x k : Int32} {t dd : Nat} {r : List (Int32 × Nat)} {ls : List (Option Value)} {st : List Value} {h : PH} (h1 : x = k → P0 d mc ms M (t, ls, st, h) Q) (h2 : ¬ x = k → P0 d mc ms M (swT x dd r, ls, st, h) Q) : P0 d mc ms M (swT x dd ((k, t) :: r), ls, st, h) Q := by
  unfold swT
  by_cases hc : x = k
  · rw [if_pos hc]; exact h1 hc
  · rw [if_neg hc]; exact h2 hc
/-- a branch on a yes or no that is an int -/
theorem P0.ifB {d mc ms : Nat} {M : MI} {Q : Option Value → PH → Prop} {P : Prop} [Decidable P] {a b : Nat} {ls : List (Option Value)} {st : List Value} {h : PH} (h1 : ¬ P → P0 d mc ms M (a, ls, st, h) Q) (h2 : P → P0 d mc ms M (b, ls, st, h) Q) : P0 d mc ms M (if (if P then (1 : Int32) else 0) = 0 then a else b, ls, st, h) Q := by
  by_cases hp : P
  · rw [if_pos hp, if_neg (by decide)]; exact h2 hp
  · rw [if_neg hp, if_pos rfl]; exact h1 hp
def it {α : Type} (f : Nat → α → α) : Nat → α → α
  | 0, a => a
  | n + 1, a => f n (it f n a)
theorem it_succ {α : Type} (f : Nat → α → α) (n : Nat) (a : α) : it f (n + 1) a = f n (it f n a) := rfl
theorem it_inv {α : Type} {f : Nat → α → α} {P : Nat → α → Prop} {a : α} (h0 : P 0 a) (n : Nat) (hs : ∀ k x, k < n → P k x → P (k + 1) (f k x)) : P n (it f n a) := by
  induction n with
  | zero => exact h0
  | succ n ih => exact hs n _ (Nat.lt_succ_self n) (ih (fun k x hk => hs k x (Nat.lt_succ_of_lt hk)))
theorem it_congr {α : Type} {f g : Nat → α → α} {a : α} (n : Nat) (h : ∀ k x, k < n → f k x = g k x) : it f n a = it g n a := by
  induction n with
  | zero => rfl
  | succ n ih => rw [it_succ, it_succ, ih (fun k x hk => h k x (Nat.lt_succ_of_lt hk)), h n _ (Nat.lt_succ_self n)]
