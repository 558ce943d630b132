/-! ===== the law's own run (wip/tools/m_law1.py) ===== -/
def R_law : String := "ToldByWitnessesLaw"
def lw_P (b : Addr) (xs : List Int32) (args : Array Value) (s : State) : Prop := args = #[.ref b] ∧ s.IntsAt b xs ∧ xs.length ≤ 3072 ∧ (Jvm.Cond.and given_1 narrow_1).before args s = true
def lw_Q (_ : Array Value) (s : State) (o : Outcome) (t : State) : Prop := o = .returned (some (.int 1)) ∧ Framed s o t [] 600000 7302250
def lw_Z (below : List Frame) (a : Array Value) (s : State) : State → Prop := fun t => ∃ o, t.status = .running ∧ Ended t below o ∧ lw_Q a s o t
/-- the law's own end, with 1 on the stack, nothing written that was there before, its room as the claim has it -/
theorem lw_ret {p : Program} {l : Launch} {e : Env} {s : State} {m : MethodId} {below : List Frame} {meth : Method} {c : Code} {b : Nat} (hx : p.tables.exec = Jvm.exec) (hb : c.code = code) (hr : meth.sig.returnType = ret) (hlocks : meth.locks = false) {pc : Nat} {H : Heap} {ls : Array Slot} (hdg : decode code pc = .ok (.ireturn, 1)) : W p l e room_1 s m #[Value.ref b] below meth c H [] 600000 7302250 (lw_Z below #[Value.ref b] s) (F0 m pc ls [.int 1]) := by
  intro T hT X
  obtain ⟨fs, hret, hrun, hended, hW, hframe⟩ := X.leave (v := some (.int 1)) (hlocks := hlocks) (fun h => by rw [hr] at h; cases h)
  have hmeth' : T.vm.method? m = some meth := X.method'
  refine ⟨T.setFrames fs, ?_, .returned (some (.int 1)), hrun, hended, rfl, ⟨_, rfl⟩, hW, hframe⟩
  jvm_step X.here [X.here.top, hx, hb, hdg, hmeth', hr, ret, narrow_b1]
  (try refine ⟨rfl, ?_⟩); (try refine ⟨rfl, ?_⟩)
  first | (intro acts; rw [hret _ acts rfl rfl rfl]) | rw [hret _ _ rfl rfl rfl]
  exact Steps.refl _
/-- what holds at the law's entry: the machine, the code, the tables' words (any of lw_tbl by 'hts w (by decide +kernel)'), the script of L ints xs at the cell b, what the Statement gives of the start (any of its parts by flat_of_before) -/
def lw_At (p : Program) (s : State) (m : MethodId) (meth : Method) (c : Code) (b L : Nat) (xs : Nat → Int32) : Prop :=
  p.tables.exec = Jvm.exec ∧ c.code = code ∧ meth.sig.returnType = ret ∧ c.maxLocals = 4 ∧ s.vm.findClass R_law = some m.cls ∧ (∀ w ∈ lw_tbl, w.before #[Value.ref b] s = true) ∧ va_X b L xs s s.heap ∧ b < s.heap.size ∧ meth.locks = false ∧ (Jvm.Cond.and given_1 narrow_1).before #[Value.ref b] s = true
/-- the script stands outside, at a place of its own -/
def Ad0 (ad : Nat → Nat) (h : PH) (b : Nat) : Prop := h.length ≤ sB → ad (sB + 400) = b
def LSnd (M : MI) (b L : Nat) (xs : Nat → Int32) (pc : Nat) (op : POp) : Prop :=
  ∀ (p : Program) (l : Launch) (e : Env) (R : Room) (s : State) (m : MethodId) (args : Array Value) (below : List Frame) (meth : Method) (c : Code) (Q : State → Prop) (D : va_G) (cA : Nat → ClassId), Fx M p R s m args meth c → va_X b L xs s s.heap → b < s.heap.size →
  ∀ (ad : Nat → Nat) (H : Heap) (locs : List Loc) (cells slots : Nat) (Ls : Array Slot) (ls : List (Option Value)) (st : List Value) (h : PH) (ob : List Prop) (dc ds : Nat) (cf : CF),
    op (pc, ls, st, h) = some (ob, dc, ds, cf) → AllP ob → cells + dc ≤ R.cells → slots + ds ≤ R.slots → Rl D cA (fun q => s.heap.size ≤ q) s M.2.2.1 ad H locs Ls ls h → Ad0 ad h b →
    (∀ (ad' : Nat → Nat) (H' : Heap) (locs' : List Loc) (Ls' : Array Slot), Rl D cA (fun q => s.heap.size ≤ q) s M.2.2.1 ad' H' locs' Ls' cf.2.1 cf.2.2.2 → Ad0 ad' cf.2.2.2 b → W p l e R s m args below meth c H' locs' (cells + dc) (slots + ds) Q (F0 m cf.1 Ls' (cf.2.2.1.map (trV ad')))) →
    W p l e R s m args below meth c H locs cells slots Q (F0 m pc Ls (st.map (trV ad)))
theorem sB4 : sB ≤ sB + 400 := Nat.le_add_right sB 400
theorem LSnd.of {M : MI} {b L : Nat} {xs : Nat → Int32} {pc : Nat} {op : POp} (h : Snd M pc op) : LSnd M b L xs pc op := by
  intro p l e R s m args below meth c Q D cA F _ _ ad H locs cells slots Ls ls st hh ob dc ds cf hop hob hdc hds Lr h0 kk
  refine h p l e R s m args below meth c Q D cA _ F ad H locs cells slots Ls ls st hh ob dc ds cf hop hob hdc hds Lr (fun hlen ad' H' locs' Ls' hE L' => kk ad' H' locs' Ls' L' (fun hl => ?_))
  exact (hE (sB + 400) (Or.inr (Nat.le_trans hl sB4))).trans (h0 (Nat.le_trans hlen hl))
def oSld (L : Nat) (xs : Nat → Int32) : POp := fun ⟨pc, ls, st, h⟩ => match st with
  | .int i :: .ref k :: st => bif Nat.beq k (sB + 400) then some ([h.length ≤ sB, vp_in i L], 0, 0, (pc + 1, ls, .int (xs i.toNatClampNeg) :: st, h)) else none
  | _ => none
def oSlen (L : Nat) : POp := fun ⟨pc, ls, st, h⟩ => match st with
  | .ref k :: st => bif Nat.beq k (sB + 400) then some ([h.length ≤ sB], 0, 0, (pc + 1, ls, .int (Int32.ofNat L) :: st, h)) else none
  | _ => none
theorem sd_sld {M : MI} {b L : Nat} {xs : Nat → Int32} {pc : Nat} (hd : decode M.2.1 pc = .ok (.iaload, 1)) : LSnd M b L xs pc (oSld L xs) := by
  intro p l e R s m args below meth c Q D cA F hX hbl ad H locs cells slots Ls ls st h ob dc ds cf hop hob hdc hds Lr h0 kk
  obtain ⟨hx, hb, hml, hown, hts, hin, hfr, hlo⟩ := F
  obtain ⟨hK, hP, hD, hS, hL, hSx, hA⟩ := id Lr
  dsimp only [oSld] at hop
  split at hop
  · next i k st0 =>
    cases ho : Nat.beq k (sB + 400) with
    | false => rw [ho] at hop; cases hop
    | true =>
      rw [ho] at hop
      have e0 := Nat.eq_of_beq_eq_true ho
      subst e0
      cases hop
      have e1 : ((Value.int i :: Value.ref (sB + 400) :: st0).map (trV ad)) = Value.int i :: Value.ref b :: st0.map (trV ad) := by
        show Value.int i :: Value.ref (ad (sB + 400)) :: st0.map (trV ad) = _
        rw [h0 hob.1]
      rw [e1]
      exact va_sld hx hb hX hbl (Nat.not_le.mpr hbl) hS hob.2.1 hd (kk ad H locs Ls Lr h0)
  · cases hop
theorem sd_slen {M : MI} {b L : Nat} {xs : Nat → Int32} {pc : Nat} (hd : decode M.2.1 pc = .ok (.arraylength, 1)) : LSnd M b L xs pc (oSlen L) := by
  intro p l e R s m args below meth c Q D cA F hX hbl ad H locs cells slots Ls ls st h ob dc ds cf hop hob hdc hds Lr h0 kk
  obtain ⟨hx, hb, hml, hown, hts, hin, hfr, hlo⟩ := F
  obtain ⟨hK, hP, hD, hS, hL, hSx, hA⟩ := id Lr
  dsimp only [oSlen] at hop
  split at hop
  · next k st0 =>
    cases ho : Nat.beq k (sB + 400) with
    | false => rw [ho] at hop; cases hop
    | true =>
      rw [ho] at hop
      have e0 := Nat.eq_of_beq_eq_true ho
      subst e0
      cases hop
      have e1 : ((Value.ref (sB + 400) :: st0).map (trV ad)) = Value.ref b :: st0.map (trV ad) := by
        show Value.ref (ad (sB + 400)) :: st0.map (trV ad) = _
        rw [h0 hob.1]
      rw [e1]
      exact va_slen hx hb hX hbl (Nat.not_le.mpr hbl) hS hd (kk ad H locs Ls Lr h0)
  · cases hop
/-- from here the law comes to its end with true -/
def PL (M : MI) (b L : Nat) (xs : Nat → Int32) (mc ms : Nat) (cf : CF) : Prop :=
  ∀ (p : Program) (l : Launch) (e : Env) (s : State) (m : MethodId) (below : List Frame) (meth : Method) (c : Code) (D : va_G) (cA : Nat → ClassId),
    Fx M p room_1 s m #[Value.ref b] meth c → meth.sig.returnType = ret → meth.locks = false → Nx s → va_X b L xs s s.heap → b < s.heap.size →
    ∀ (ad : Nat → Nat) (H : Heap) (locs : List Loc) (cells slots : Nat) (Ls : Array Slot), cells + mc ≤ 600000 → slots + ms ≤ 7302250 → Rl D cA (fun q => s.heap.size ≤ q) s M.2.2.1 ad H locs Ls cf.2.1 cf.2.2.2 → Ad0 ad cf.2.2.2 b →
    W p l e room_1 s m #[Value.ref b] below meth c H locs cells slots (lw_Z below #[Value.ref b] s) (F0 m cf.1 Ls (cf.2.2.1.map (trV ad)))
def LGood (M : MI) (b L : Nat) (xs : Nat → Int32) : Prop := ∀ q ∈ M.2.2.2.2, LSnd M b L xs q.1 q.2
section PLS
variable {M : MI} {b L : Nat} {xs : Nat → Int32} {mc ms dc ds : Nat} {cf cf' : CF}
theorem PL.mono {mc1 ms1 : Nat} (h : PL M b L xs mc ms cf) (hc : mc ≤ mc1) (hs : ms ≤ ms1) : PL M b L xs mc1 ms1 cf := by
  intro p l e s m below meth c D cA F hr hlk hN hX hbl ad H locs cells slots Ls h1 h2 Lr h0
  exact h p l e s m below meth c D cA F hr hlk hN hX hbl ad H locs cells slots Ls (by omega) (by omega) Lr h0
theorem PL.run {op : POp} {ob : List Prop} (hG : LGood M b L xs) (hl : lk M.2.2.2.2 cf.1 = some op) (ho : op cf = some (ob, dc, ds, cf')) (hob : AllP ob) (h : PL M b L xs mc ms cf') : PL M b L xs (mc + dc) (ms + ds) cf := by
  intro p l e s m below meth c D cA F hr hlk hN hX hbl ad H locs cells slots Ls h1 h2 Lr h0
  obtain ⟨pc, ls, st, hh⟩ := cf
  refine hG _ (lk_mem hl) p l e room_1 s m #[Value.ref b] below meth c _ D cA F hX hbl ad H locs cells slots Ls ls st hh ob dc ds cf' ho hob (show cells + dc ≤ 600000 by omega) (show slots + ds ≤ 7302250 by omega) Lr h0 ?_
  intro ad' H' locs' Ls' L' h0'
  exact h p l e s m below meth c D cA F hr hlk hN hX hbl ad' H' locs' _ _ Ls' (by omega) (by omega) L' h0'
theorem PL.blk (hG : LGood M b L xs) : ∀ (n : Nat) {cf cf' : CF} {ob : List Prop} {dc ds : Nat}, runN n M cf = some (ob, dc, ds, cf') → AllP ob → PL M b L xs mc ms cf' → PL M b L xs (mc + dc) (ms + ds) cf
  | 0, cf, cf', ob, dc, ds, h, _, k => by
    simp only [runN, Option.some.injEq, Prod.mk.injEq] at h
    obtain ⟨rfl, rfl, rfl, rfl⟩ := h
    exact k
  | n + 1, cf, cf', ob, dc, ds, h, ho, k => by
    simp only [runN] at h
    split at h
    · cases h
    · next op hop =>
      split at h
      · cases h
      · next r hr =>
        split at h
        · cases h
        · next r2 hr2 =>
          obtain ⟨a1, a2, a3, a4⟩ := r
          obtain ⟨b1, b2, b3, b4⟩ := r2
          cases h
          have h2 := PL.blk hG n hr2 ho.app.2 k
          have h3 := PL.run hG hop hr ho.app.1 h2
          have e1 : mc + (a2 + b2) = mc + b2 + a2 := by omega
          have e2 : ms + (a3 + b3) = ms + b3 + a3 := by omega
          show PL M b L xs (mc + (a2 + b2)) (ms + (a3 + b3)) cf
          rw [e1, e2]
          exact h3
theorem PL.bk (hG : LGood M b L xs) (n : Nat) {cf cf' : CF} {ob : List Prop} (h : runN n M cf = some (ob, 0, 0, cf')) (ho : AllP ob) (k : PL M b L xs mc ms cf') : PL M b L xs mc ms cf := PL.blk hG n h ho k
theorem PL.if {q : Prop} [Decidable q] {x y : Nat} {ls : List (Option Value)} {st : List Value} {h : PH} (h1 : q → PL M b L xs mc ms (x, ls, st, h)) (h2 : ¬ q → PL M b L xs mc ms (y, ls, st, h)) : PL M b L xs mc ms (if q then x else y, ls, st, h) := by
  by_cases hc : q
  · rw [if_pos hc]; exact h1 hc
  · rw [if_neg hc]; exact h2 hc
theorem PL.ret {pc : Nat} {ls : List (Option Value)} {h : PH} (hcode : M.2.1 = code) (hd : decode code pc = .ok (.ireturn, 1)) : PL M b L xs mc ms (pc, ls, [.int 1], h) := by
  intro p l e s m below meth c D cA F hr hlk hN hX hbl ad H locs cells slots Ls h1 h2 Lr h0
  obtain ⟨hx, hb, hml, hown, hts, hin, hfr, hlo⟩ := F
  obtain ⟨hK, hP, hD, hS, hL, hSx, hA⟩ := Lr
  refine va_forget (fun q hq => hS.2.2 q hq) (W.widen (k := 600000) (n := 7302250) (by omega) (by omega) ?_)
  exact lw_ret hx (hb.trans hcode) hr hlk hd
end PLS
theorem PL.call {b9 L9 : Nat} {xs9 : Nat → Int32} {mc1 ms1 mc2 ms2 : Nat} {M M' : MI} {pc kind n : Nat} {ls : List (Option Value)} {st rest as : List Value} {h hc : PH} {io : List Nat} {Q1 : Option Value → PH → Prop}
    (hG' : Good M') (hcall : CallAt M pc kind M' n) (hst : st = (as.map (trV (rnI io))).reverse ++ rest) (hargs : argsOk kind n M' hc as) (hsum : sumc rest ≤ 8) (hsa : sumc as ≤ M'.2.2.1)
    (hlen : io.length = hc.length) (hcl : hc.length ≤ 999999) (hnd : va_nd io = true) (hcells : ∀ (j k : Nat), io[j]? = some k → ∃ e : va_E, hc[j]? = some e ∧ h[k]? = some (trE (rnI io) (fun k => k) e))
    (hsub : P0 64 mc1 ms1 M' (0, ent M'.2.2.1 as, [], hc) Q1)
    (hwf : ∀ r hc', Q1 r hc' → h.length + (hc'.length - hc.length) ≤ 999999 ∧ hc'.length ≤ 999999 ∧ (hc'.length = hc.length ∨ wfP ls rest h))
    (hk : ∀ r hc', Q1 r hc' → hc.length ≤ hc'.length → PL M b9 L9 xs9 mc2 ms2 (pc + 3, ls, pushR (r.map (trV (rnI (newI io h.length (hc'.length - hc.length))))) rest, putL h io (hc'.map (trE (rnI (newI io h.length (hc'.length - hc.length))) (fun k => k))))) :
    PL M b9 L9 xs9 (mc1 + mc2) (ms1 + ms2) (pc, ls, st, h) := by
  intro p l e s m below meth c D cA F hr hlk hN hXs hbls ad H locs cells slots Ls h1 h2 L h0s
  generalize hA9 : (fun q : Nat => s.heap.size ≤ q) = A at L
  generalize hargs9 : (#[Value.ref b9] : Array Value) = args at F
  obtain ⟨hx, hb, hml, hown, hts, hin, hfr, hlo⟩ := id F
  obtain ⟨hK, hP, hD, hS, hL, hSx, hA⟩ := id L
  dsimp only at hL hP hD ⊢
  subst hst
  generalize hadc : (fun k => ad (rnI io k)) = adc
  have hadk : ∀ k, adc k = ad (rnI io k) := fun k => by rw [← hadc]
  have hsB : sB = 1000000 := rfl
  have inio : ∀ (j : Nat), j < hc.length → ∃ kk, io[j]? = some kk ∧ adc j = ad kk ∧ kk < h.length := by
    intro j hj
    have hjl : j < io.length := by rw [hlen]; exact hj
    have g0 := List.getElem?_eq_getElem hjl
    obtain ⟨e1, g1, g2⟩ := hcells j _ g0
    exact ⟨_, g0, by rw [hadk, rnI_lt g0 (by omega)], (List.getElem?_eq_some_iff.mp g2).1⟩
  -- the callee's world is a part of the caller's
  have part : ∀ (j : Nat) (q : Nat × va_E), (wd adc cA hc)[j]? = some q → ∃ kk, io[j]? = some kk ∧ (wd ad cA h)[kk]? = some q := by
    intro j q hq
    rw [wd_get] at hq
    cases hj : hc[j]? with
    | none => rw [hj] at hq; cases hq
    | some e0 =>
      rw [hj] at hq
      cases hq
      obtain ⟨kk, g0, g1, -⟩ := inio j (List.getElem?_eq_some_iff.mp hj).1
      obtain ⟨e1, g2, g3⟩ := hcells j _ g0
      rw [hj] at g2
      cases g2
      refine ⟨kk, g0, ?_⟩
      rw [wd_get, g3, ← g1]
      simp only [Option.map_some]
      rw [trE_trE, hadc]
  have hPc : va_P D vwCl (wd adc cA hc) H := fun j q hq => by
    obtain ⟨kk, -, g⟩ := part j q hq
    exact hP kk q g
  have hDc : va_D (fun _ => True) (wd adc cA hc) := by
    refine ⟨fun i j q1 q2 hi hj he => ?_, fun _ _ _ => trivial⟩
    obtain ⟨k1, g1, g2⟩ := part i q1 hi
    obtain ⟨k2, g3, g4⟩ := part j q2 hj
    have := hD.1 k1 k2 q1 q2 g2 g4 he
    subst this
    exact va_nd_inj io hnd i j k1 g1 g3
  have hFc : ∀ q, va_A (wd adc cA hc) H.size q → A q := by
    intro q hq
    rcases hq with ⟨j, e0, hq⟩ | hq
    · obtain ⟨kk, -, g⟩ := part j _ hq
      exact hD.2 kk _ g
    · exact hA q (Nat.le_trans hS.1 hq)
  have hSc : Sx adc (va_A (wd adc cA hc) H.size) s H := ((hSx.kept (H1 := H) hS.2.1).narrow hFc).ext (fun j hj => by rw [hadk, rnI_big io hj])
  have hM : Met l M'.1 (wsM M') (rmD 64 mc1 ms1) (PcM D cA adc H.size hc as) (QcM D cA adc H.size hc Q1) mc1 ms1 (va_A (wd adc cA hc) H.size) := P0.met hG' hsa hsub (Nat.le_refl _) l D cA adc H.size
  have hPre : ∀ U : State, U.heap = H → s.WarmedH U.vm → PcM D cA adc H.size hc as (as.map (trV adc)).toArray U := fun U hU hW =>
    ⟨rfl, by rw [hU], by rw [hU]; exact hPc, va_K.moved hW.alike hK, hDc, by rw [hU]; exact hSc.warm hW, hN.warm hW⟩
  have hasr : (as.map (trV (rnI io))).map (trV ad) = as.map (trV adc) := by
    rw [List.map_map]
    congr 1
    funext v
    simp only [Function.comp]
    rw [trV_trV, hadc]
  have hRm : (rmD 64 mc1 ms1).frames + 1 ≤ room_1.frames ∧ 8 + (M'.2.2.1 + 11) + (rmD 64 mc1 ms1).locals ≤ room_1.locals := by
    have := hG'.2.2.2.2.1
    refine ⟨Nat.le_of_ble_eq_true rfl, ?_⟩
    show 8 + (M'.2.2.1 + 11) + 60 * (64 + 1) ≤ 84000
    omega
  have hrun : va_Run p l e room_1 s m args below meth c H locs cells slots mc1 ms1 (F0 m pc Ls (((as.map (trV (rnI io))).reverse ++ rest).map (trV ad))) (rest.map (trV ad)) (QcM D cA adc H.size hc Q1 (as.map (trV adc)).toArray) (va_A (wd adc cA hc) H.size) := by
    have hstk : ((as.map (trV (rnI io))).reverse ++ rest).map (trV ad) = (as.map (trV adc)).reverse ++ rest.map (trV ad) := by
      rw [List.map_append, List.map_reverse, hasr]
    rw [hstk]
    have hfix : CallFix p m c M.2.1 M.2.2.1 s args lw_U M.1.cls := ⟨hx, hb, hml, hown, hts⟩
    have hini := hts _ (inU hG'.2.2.1 rfl)
    have hW : 2 * (F0 m pc Ls ((as.map (trV adc)).reverse ++ rest.map (trV ad))).monitorRoom + ((rest.map (trV ad)).map fun v => v.category).sum ≤ 8 := lv_room (by rw [sumc_tr]; exact hsum)
    have hf : cells + mc1 ≤ room_1.cells ∧ slots + ms1 ≤ room_1.slots := ⟨by show cells + mc1 ≤ 600000; omega, by show slots + ms1 ≤ 7302250; omega⟩
    obtain ⟨hn, hcall⟩ := hcall
    have hdd := And.intro hG'.2.2.2.1.1 (And.intro hG'.2.2.2.1.2 hn)
    match kind, hcall, hargs with
    | 0, ⟨i, hd, w1, w2, w3⟩, harg =>
      obtain ⟨b, as', rfl, hl, hrv⟩ := harg
      have hrecv : ∃ cellB : Cell, H[adc b]? = some cellB ∧ cellB.vm.isStatics = false ∧ s.vm.findClass M'.1.cls = some cellB.cls := by
        rcases hrv with ⟨ci, fs, T, N, g1, g2⟩ | ⟨g1, g2, g3⟩
        · exact va_recv hK hPc g2 (wd_at g1)
        · obtain ⟨i9, hi9⟩ : ∃ i9 : Nat, sB + i9 = b := ⟨b - sB, Nat.add_sub_cancel' g2⟩
          rw [← hi9] at g3
          have h13 : i9 < 13 := Nat.lt_of_add_lt_add_left g3
          rw [hi9] at g3
          have := vk_recv hSx.1 h13 hS
          rw [g1, hadk, rnI_big io g2, ← hi9]
          exact this
      exact va_runV (As := as'.map (trV adc)) hfix hM ⟨callB_of n hts (goodU M' hG') rfl rfl rfl hini (hts _ w1) hdd hRm, hts _ w2, hts _ w3⟩ ⟨PcM.blind, hrecv, hPre⟩ rfl (by rw [List.length_map]; exact hl) (hL.2.1) (by simp [trV]) hW hd hf
    | 1, ⟨i, hd, w1, w2⟩, hl =>
      exact va_runS (As := as.map (trV adc)) hfix hM ⟨callB_of n hts (goodU M' hG') rfl rfl rfl hini (hts _ w1) hdd hRm, hts _ w2⟩ ⟨PcM.blind, hPre⟩ rfl (by rw [List.length_map]; exact hl) (hL.2.1) rfl hW hd hf
    | 2, ⟨i, hd, w1, w2, w3, w4⟩, harg =>
      obtain ⟨b, as', rfl, hl⟩ := harg
      exact va_runI (As := as'.map (trV adc)) hfix hM ⟨callB_of n hts (goodU M' hG') (by unfold wsM; rw [w4]) rfl rfl hini (hts _ w1) hdd hRm, w3, hts _ w2⟩ ⟨PcM.blind, hPre⟩ rfl (by rw [List.length_map]; exact hl) (hL.2.1) (by simp [trV]) hW hd hf
    | k9 + 3, ⟨i, host, hd, w1, w2, w3, w4⟩, harg =>
      obtain ⟨b, as', rfl, hl⟩ := harg
      exact va_runIN (As := as'.map (trV adc)) hfix hM ⟨va_cnB n hts (goodU M' hG') (by unfold wsM; rw [w4]) rfl rfl (va_Nw.of rfl (hts _ w1)) hini hdd hRm, w3, hts _ w2⟩ ⟨PcM.blind, hPre⟩ rfl (by rw [List.length_map]; exact hl) (hL.2.1) (by simp [trV]) hW hd hf
  intro T hT X
  obtain ⟨v, st₀, t, T', L', g0, X', hfree, e1, e2, ⟨r, hc', adc', hv, hq, hlen', hE, hP1, hD1, hz, hkeep⟩, hgo⟩ := hrun T hT X
  cases hv
  rw [g0] at hz hkeep
  obtain ⟨w1, w2, w3⟩ := hwf r hc' hq
  generalize hnw : hc'.length - hc.length = nw at w1
  have hnl : hc'.length = hc.length + nw := by omega
  have hK9 := hk r hc' hq hlen'
  rw [hnw] at hK9
  generalize hio' : newI io h.length nw = io' at hK9
  have hiol : io'.length = hc'.length := by rw [← hio']; simp [newI]; omega
  have io_old : ∀ j kk, io[j]? = some kk → io'[j]? = some kk := fun j kk hj => by
    rw [← hio']
    unfold newI
    rw [List.getElem?_append_left (List.getElem?_eq_some_iff.mp hj).1]
    exact hj
  have io_new : ∀ t9, t9 < nw → io'[hc.length + t9]? = some (h.length + t9) := fun t9 ht9 => by
    rw [← hio']
    unfold newI
    rw [List.getElem?_append_right (by omega), List.getElem?_range' (by omega)]
    simp
    omega
  generalize had' : adB ad adc' h.length hc.length nw = ad'
  have hadn : ∀ k, ad' k = if h.length ≤ k ∧ k < h.length + nw then adc' (hc.length + (k - h.length)) else ad k := fun k => by rw [← had']; rfl
  have ad_old : ∀ k, k < h.length → ad' k = ad k := fun k hk => by rw [hadn, if_neg (by omega)]
  have hext : Ext ad ad' h.length (h.length + nw) := fun k hk => by rw [hadn, if_neg (by omega)]
  have hcomp : (fun j => ad' (rnI io' j)) = adc' := by
    funext j
    by_cases hj : sB ≤ j
    · rw [rnI_big io' hj, hadn, if_neg (by omega), hE j (Or.inr (by omega)), hadk, rnI_big io hj]
    · by_cases hj1 : j < hc.length
      · obtain ⟨kk, q1, q2, q3⟩ := inio j hj1
        rw [rnI_lt (io_old j kk q1) (by omega), ad_old kk q3, hE j (Or.inl hj1), q2]
      · by_cases hj2 : j < hc'.length
        · obtain ⟨t9, rfl⟩ : ∃ t9, j = hc.length + t9 := ⟨j - hc.length, by omega⟩
          rw [rnI_lt (io_new t9 (by omega)) (by omega), hadn, if_pos (by omega)]
          congr 1
          omega
        · rw [rnI_none (by omega) (by omega), hadn, if_neg (by omega), hE j (Or.inr (by omega)), hadk, rnI_none (by omega) (by omega)]
  have same : ∀ v : Value, (hc'.length = hc.length ∨ wfV h.length v) → trV ad' v = trV ad v := by
    intro v hv
    cases v <;> try rfl
    next a =>
      refine congrArg Value.ref ?_
      rw [hadn, if_neg]
      rcases hv with hv | hv
      · omega
      · intro q
        rcases hv with hv | hv
        · exact absurd (Nat.lt_of_lt_of_le hv q.1) (Nat.lt_irrefl _)
        · exact absurd (Nat.lt_of_le_of_lt hv (Nat.lt_of_lt_of_le q.2 w1)) (by unfold sB; decide)
  have sameE : ∀ v : va_E, (hc'.length = hc.length ∨ wfE h.length v) → trE ad' cA v = trE ad cA v := by
    intro v hv
    by_cases hn0 : nw = 0
    · have : ad' = ad := by funext k; rw [hadn, if_neg (by omega)]
      rw [this]
    · have hv : wfE h.length v := by
        rcases hv with hv | hv
        · omega
        · exact hv
      rcases v with ⟨k0, m0, f | f | f | f | f⟩ | ⟨ci, fs⟩ <;> try rfl
      · simp only [trE]
        congr 8
        funext j
        cases hj : f j with
        | none => rfl
        | some y =>
          have hy : y < h.length ∨ sB ≤ y := hv j y hj
          refine congrArg some ?_
          rw [hadn, if_neg (by omega)]
      · simp only [trE]
        congr 2
        exact List.map_congr_left (fun v9 hv9 => same v9 (Or.inr (hv v9 hv9)))
  have hlc : io.length ≤ (hc'.map (trE (rnI io') (fun k => k))).length := by rw [List.length_map]; omega
  have adlt : ∀ k, k < h.length → ad k < H.size := by
    intro k hk
    have := (hP k _ (by rw [wd_get, List.getElem?_eq_getElem hk]; rfl)).lt
    exact this
  have notc : ∀ k, k < h.length → k ∉ io → ¬ va_A (wd adc cA hc) H.size (ad k) := by
    intro k hk hni hq
    rcases hq with ⟨j, e0, hq⟩ | hq
    · obtain ⟨kk, q1, q2⟩ := part j _ hq
      have := hD.1 kk k _ (ad k, trE ad cA h[k]) q2 (by rw [wd_get, List.getElem?_eq_getElem hk]; rfl) rfl
      subst this
      exact hni (List.mem_of_getElem? q1)
    · exact absurd (adlt k hk) (by omega)
  -- what stands in the caller's heap behind the call, by places
  have look : ∀ (k : Nat) (e0 : va_E), (putL h io (hc'.map (trE (rnI io') (fun k => k))))[k]? = some e0 →
      (∃ (j : Nat) (e1 : va_E), hc'[j]? = some e1 ∧ e0 = trE (rnI io') (fun k => k) e1 ∧ ad' k = adc' j ∧ io'[j]? = some k) ∨ (k < h.length ∧ k ∉ io ∧ h[k]? = some e0) := by
    intro k e0 hk
    by_cases hkl : k < h.length
    · by_cases hki : k ∈ io
      · obtain ⟨j, hj⟩ := List.getElem?_of_mem hki
        rw [putL_in io h _ j k hnd hj hkl hlc, List.getElem?_map] at hk
        cases hj2 : hc'[j]? with
        | none => rw [hj2] at hk; cases hk
        | some e1 =>
          rw [hj2] at hk
          cases hk
          refine Or.inl ⟨j, e1, hj2, rfl, ?_, io_old j k hj⟩
          have hjc : j < hc.length := by rw [← hlen]; exact (List.getElem?_eq_some_iff.mp hj).1
          rw [ad_old k hkl, hE j (Or.inl hjc), hadk, rnI_lt hj (by omega)]
      · rw [putL_out io h _ k hkl hki hlc] at hk
        exact Or.inr ⟨hkl, hki, hk⟩
    · obtain ⟨t9, rfl⟩ : ∃ t9, k = h.length + t9 := ⟨k - h.length, by omega⟩
      rw [putL_new io h _ t9 hlc, List.getElem?_map] at hk
      cases hj2 : hc'[io.length + t9]? with
      | none => rw [hj2] at hk; cases hk
      | some e1 =>
        rw [hj2] at hk
        cases hk
        have ht9 : t9 < nw := by
          have := (List.getElem?_eq_some_iff.mp hj2).1
          omega
        refine Or.inl ⟨io.length + t9, e1, hj2, rfl, ?_, by rw [hlen]; exact io_new t9 ht9⟩
        rw [hadn, if_pos (by omega), hlen]
        congr 1
        omega
  have hPn : va_P D vwCl (wd ad' cA (putL h io (hc'.map (trE (rnI io') (fun k => k))))) T'.heap := by
    intro k q hq
    rw [wd_get] at hq
    cases hk : (putL h io (hc'.map (trE (rnI io') (fun k => k))))[k]? with
    | none => rw [hk] at hq; cases hq
    | some e0 =>
      rw [hk] at hq
      cases hq
      dsimp only
      rcases look k e0 hk with ⟨j, x1, q1, rfl, q2, q3⟩ | ⟨q1, q2, q3⟩
      · rw [trE_trE, hcomp, q2, e1]
        exact hP1 j _ (by rw [wd_get, q1]; rfl)
      · have hwe : hc'.length = hc.length ∨ wfE h.length e0 := by
          rcases w3 with w3 | w3
          · exact Or.inl w3
          · exact Or.inr (w3.2.2.2 e0 (List.mem_of_getElem? q3))
        rw [sameE e0 hwe, ad_old k q1, e1]
        exact (hP k _ (by rw [wd_get, q3]; rfl)).kept (hkeep _ (adlt k q1) (notc k q1 q2))
  have hDn : va_D A (wd ad' cA (putL h io (hc'.map (trE (rnI io') (fun k => k))))) := by
    have addr : ∀ (k : Nat) (q : Nat × va_E), (wd ad' cA (putL h io (hc'.map (trE (rnI io') (fun k => k)))))[k]? = some q →
        (∃ (j : Nat) (e1 : va_E), hc'[j]? = some e1 ∧ q.1 = adc' j ∧ io'[j]? = some k) ∨ (k < h.length ∧ k ∉ io ∧ q.1 = ad k) := by
      intro k q hq
      rw [wd_get] at hq
      cases hk : (putL h io (hc'.map (trE (rnI io') (fun k => k))))[k]? with
      | none => rw [hk] at hq; cases hq
      | some e0 =>
        rw [hk] at hq
        cases hq
        rcases look k e0 hk with ⟨j, e1, q1, -, q2, q3⟩ | ⟨q1, q2, -⟩
        · exact Or.inl ⟨j, e1, q1, q2, q3⟩
        · exact Or.inr ⟨q1, q2, ad_old k q1⟩
    have inA1 : ∀ (j : Nat) (e1 : va_E), hc'[j]? = some e1 → va_A (wd adc cA hc) H.size (adc' j) := fun j e1 hj => hD1.2 j (adc' j, trE adc' cA e1) (by rw [wd_get, hj]; rfl)
    refine ⟨fun i j q1 q2 hi hj he => ?_, fun k q hq => ?_⟩
    · rcases addr i q1 hi with ⟨a1, b1, c1, d1, f1⟩ | ⟨c1, d1, f1⟩ <;> rcases addr j q2 hj with ⟨a2, b2, c2, d2, f2⟩ | ⟨c2, d2, f2⟩
      · have := hD1.1 a1 a2 (adc' a1, trE adc' cA b1) (adc' a2, trE adc' cA b2) (by rw [wd_get, c1]; rfl) (by rw [wd_get, c2]; rfl) (by rw [← d1, he, d2])
        subst this
        exact Option.some.inj (f1.symm.trans f2)
      · exfalso
        exact notc j c2 d2 (by rw [← f2, ← he, d1]; exact inA1 a1 b1 c1)
      · exfalso
        exact notc i c1 d1 (by rw [← f1, he, d2]; exact inA1 a2 b2 c2)
      · exact hD.1 i j (ad i, trE ad cA h[i]) (ad j, trE ad cA h[j]) (by rw [wd_get, List.getElem?_eq_getElem c1]; rfl) (by rw [wd_get, List.getElem?_eq_getElem c2]; rfl) (by rw [← f1, he, f2])
    · rcases addr k q hq with ⟨a1, b1, c1, d1, f1⟩ | ⟨c1, d1, f1⟩
      · rw [d1]; exact hFc _ (inA1 a1 b1 c1)
      · rw [f1]; exact hD.2 k (ad k, trE ad cA h[k]) (by rw [wd_get, List.getElem?_eq_getElem c1]; rfl)
  have hSn : va_S A s.heap T'.heap (locs ++ L') := ⟨Nat.le_trans hS.1 (by rw [e1]; exact hz), fun q h1 h2 => by rw [e1, hkeep q (Nat.lt_of_lt_of_le h1 hS.1) (fun z => h2 (hFc q z))]; exact hS.2.1 q h1 h2, fun q hq9 => by
      rcases List.mem_append.mp hq9 with h9 | h9
      · exact hS.2.2 q h9
      · exact hFc _ (hfree q h9)⟩
  have hLn : LR ad' M.2.2.1 Ls ls := by
    refine ⟨hL.1, hL.2.1, hL.2.2.1, fun i v hv => ?_⟩
    have hwv : hc'.length = hc.length ∨ wfV h.length v := by
      rcases w3 with w3 | w3
      · exact Or.inl w3
      · exact Or.inr (w3.2.1 _ (List.mem_of_getElem? hv) v rfl)
    rw [same v hwv]
    exact hL.2.2.2 i v hv
  have hrest : rest.map (trV ad') = rest.map (trV ad) := by
    refine List.map_congr_left (fun v hv => same v ?_)
    rcases w3 with w3 | w3
    · exact Or.inl w3
    · exact Or.inr (w3.2.2.1 v hv)
  subst hA9 hargs9
  have hgoal := hK9 p l e s m below meth c D cA F hr hlk hN hXs hbls ad' T'.heap (locs ++ L') (cells + mc1) (slots + ms1) Ls (by omega) (by omega) ⟨hK, hPn, hDn, hSn, hLn, hSx.ext (fun j hj => by rw [hadn, if_neg (by omega)]), hA⟩ (fun _ => by
    rw [hadn, if_neg (by omega)]
    exact h0s (by show h.length ≤ sB; omega))
  have hstk2 : (pushR (r.map (trV (rnI io'))) rest).map (trV ad') = (r.map (trV adc')).toList ++ rest.map (trV ad) := by
    unfold pushR
    rw [List.map_append, hrest]
    congr 1
    cases r with
    | none => rfl
    | some v =>
      simp only [Option.map_some, Option.toList_some, List.map_cons, List.map_nil]
      rw [trV_trV, hcomp]
  dsimp only at hgoal
  rw [hstk2] at hgoal
  obtain ⟨t2, a1, b1⟩ := hgoal T' rfl X'
  exact ⟨t2, hgo t2 a1, b1⟩
