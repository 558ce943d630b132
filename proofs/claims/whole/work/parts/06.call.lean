/-! ===== CALLS: the callee sees some of the cells, at places of its own ===== -/
def rnI (io : List Nat) (k : Nat) : Nat := bif Nat.ble sB k then k else (match lg io k with
  | some j => j
  | none => 999999)
def putL : PH → List Nat → PH → PH
  | h, [], cs => h ++ cs
  | h, _ :: _, [] => h
  | h, i :: is, c :: cs => putL (h.set i c) is cs
def newI (io : List Nat) (n m : Nat) : List Nat := io ++ List.range' n m
theorem putL_len : ∀ (io : List Nat) (h cs : PH), io.length ≤ cs.length → (putL h io cs).length = h.length + (cs.length - io.length)
  | [], h, cs, _ => by simp [putL]
  | i :: is, h, [], hl => by simp at hl
  | i :: is, h, c :: cs, hl => by
    simp only [List.length_cons] at hl
    rw [putL, putL_len is _ cs (by omega)]
    simp only [List.length_set, List.length_cons]
    omega
theorem putL_out : ∀ (io : List Nat) (h cs : PH) (k : Nat), k < h.length → k ∉ io → io.length ≤ cs.length → (putL h io cs)[k]? = h[k]?
  | [], h, cs, k, hk, _, _ => by simp only [putL]; rw [List.getElem?_append_left hk]
  | i :: is, h, [], k, _, _, hl => by simp at hl
  | i :: is, h, c :: cs, k, hk, hn, hl => by
    simp only [List.length_cons] at hl
    rw [putL, putL_out is _ cs k (by simpa using hk) (fun z => hn (List.mem_cons_of_mem _ z)) (by omega), List.getElem?_set_ne]
    intro z
    exact hn (by rw [z]; exact List.mem_cons_self)
theorem putL_new : ∀ (io : List Nat) (h cs : PH) (t : Nat), io.length ≤ cs.length → (putL h io cs)[h.length + t]? = cs[io.length + t]?
  | [], h, cs, t, _ => by simp only [putL]; rw [List.getElem?_append_right (by omega)]; simp
  | i :: is, h, [], t, hl => by simp at hl
  | i :: is, h, c :: cs, t, hl => by
    simp only [List.length_cons] at hl
    have := putL_new is (h.set i c) cs t (by omega)
    rw [List.length_set] at this
    rw [putL, this, List.length_cons, show is.length + 1 + t = (is.length + t) + 1 by omega, List.getElem?_cons_succ]
theorem putL_in : ∀ (io : List Nat) (h cs : PH) (j k : Nat), va_nd io = true → io[j]? = some k → k < h.length → io.length ≤ cs.length → (putL h io cs)[k]? = cs[j]?
  | [], h, cs, j, k, _, hj, _, _ => by simp at hj
  | i :: is, h, [], j, k, _, _, _, hl => by simp at hl
  | i :: is, h, c :: cs, j, k, hn, hj, hk, hl => by
    simp only [List.length_cons] at hl
    simp only [va_nd, Bool.and_eq_true, decide_eq_true_eq] at hn
    rw [putL]
    cases j with
    | zero =>
      simp only [List.getElem?_cons_zero, Option.some.injEq] at hj
      subst hj
      rw [putL_out is _ cs i (by simpa using hk) hn.1 (by omega), List.getElem?_set_self hk]
      rfl
    | succ j =>
      rw [List.getElem?_cons_succ] at hj
      rw [putL_in is _ cs j k hn.2 hj (by simpa using hk) (by omega), List.getElem?_cons_succ]
theorem trV_trV (f g : Nat → Nat) (v : Value) : trV f (trV g v) = trV (fun k => f (g k)) v := by cases v <;> rfl
theorem trE_trE (f g : Nat → Nat) (cA : Nat → ClassId) (e : va_E) : trE f cA (trE g (fun k => k) e) = trE (fun k => f (g k)) cA e := by
  rcases e with ⟨k, m, x | x | x | x | x⟩ | ⟨ci, fs⟩ <;> try rfl
  · simp only [trE]
    congr 8
    funext j
    cases x j <;> rfl
  · simp only [trE, List.map_map]
    congr 3
    funext v
    exact trV_trV f g v
theorem rnI_lt {io : List Nat} {j k : Nat} (h : io[j]? = some k) (hj : j < sB) : rnI io j = k := by
  unfold rnI
  have : Nat.ble sB j = false := by
    cases hb : Nat.ble sB j with
    | false => rfl
    | true => exact absurd (Nat.le_of_ble_eq_true hb) (by omega)
  rw [this, lg_eq, h]
  rfl
theorem rnI_big (io : List Nat) {j : Nat} (hj : sB ≤ j) : rnI io j = j := by
  unfold rnI
  rw [Nat.ble_eq_true_of_le hj]
  rfl
theorem rnI_none {io : List Nat} {j : Nat} (hj : j < sB) (h : io.length ≤ j) : rnI io j = 999999 := by
  unfold rnI
  have : Nat.ble sB j = false := by
    cases hb : Nat.ble sB j with
    | false => rfl
    | true => exact absurd (Nat.le_of_ble_eq_true hb) (by omega)
  rw [this, lg_eq, List.getElem?_eq_none h]
  rfl
def pushR (r : Option Value) (rest : List Value) : List Value := r.toList ++ rest
/-- the caller's addresses behind the call -/
def adB (ad adc : Nat → Nat) (n nc m : Nat) : Nat → Nat := fun k => if n ≤ k ∧ k < n + m then adc (nc + (k - n)) else ad k
def argsOk (kind n : Nat) (M' : MI) (h : PH) (as : List Value) : Prop := match kind with
  | 1 => as.length = n
  | 0 => ∃ b as', as = .ref b :: as' ∧ as'.length = n ∧ ((∃ (ci : Nat) (fs : List Value) (T : u_T) (N : Nat), lg h b = some (.inr (ci, fs)) ∧ vwCl[ci]? = some (M'.1.cls, T, N)) ∨ (M'.1.cls = "java/lang/String" ∧ sB ≤ b ∧ b < sB + 13))
  | _ => ∃ b as', as = .ref b :: as' ∧ as'.length = n
theorem goodU (M : MI) (hG : Good M) : GoodIn lw_U (wsM M) := by
  intro w hw
  rcases List.mem_cons.mp hw with rfl | hw
  · exact ⟨inU hG.2.1 rfl, Or.inl rfl⟩
  · have hm := List.mem_filter.mp hw
    exact ⟨inU hm.1 (by rw [hm.2]; rfl), good_of_word hm.2⟩
theorem PcM.blind {D : va_G} {cA : Nat → ClassId} {ad : Nat → Nat} {sz : Nat} {h : PH} {as : List Value} : FrameBlind (PcM D cA ad sz h as) := fun a U g mk q => by
  obtain ⟨q0, q1, qP, qK, qD, qS, qN⟩ := q
  exact ⟨q0, q1, qP, va_K.moved (u := U) (U := U.calling g mk a) (Vm.Alike.refl U.vm) qK, qD, Sx.same (s := U) (U := U.calling g mk a) rfl qS, Nx.same (s := U) (U := U.calling g mk a) rfl qN⟩
theorem P0.call {d mc1 ms1 mc2 ms2 : Nat} {M M' : MI} {pc kind n : Nat} {ls : List (Option Value)} {st rest as : List Value} {h hc : PH} {io : List Nat} {Q1 Q : Option Value → PH → Prop}
    (hG' : Good M') (hcall : CallAt M pc kind M' n) (hst : st = (as.map (trV (rnI io))).reverse ++ rest) (hargs : argsOk kind n M' hc as) (hsum : sumc rest ≤ 8) (hsa : sumc as ≤ M'.2.2.1)
    (hlen : io.length = hc.length) (hcl : hc.length ≤ 999999) (hnd : va_nd io = true) (hcells : ∀ (j k : Nat), io[j]? = some k → ∃ e : va_E, hc[j]? = some e ∧ h[k]? = some (trE (rnI io) (fun k => k) e))
    (hsub : P0 d mc1 ms1 M' (0, ent M'.2.2.1 as, [], hc) Q1)
    (hwf : ∀ r hc', Q1 r hc' → h.length + (hc'.length - hc.length) ≤ 999999 ∧ hc'.length ≤ 999999 ∧ (hc'.length = hc.length ∨ wfP ls rest h))
    (hk : ∀ r hc', Q1 r hc' → hc.length ≤ hc'.length → P0 (d + 1) mc2 ms2 M (pc + 3, ls, pushR (r.map (trV (rnI (newI io h.length (hc'.length - hc.length))))) rest, putL h io (hc'.map (trE (rnI (newI io h.length (hc'.length - hc.length))) (fun k => k)))) Q) :
    P0 (d + 1) (mc1 + mc2) (ms1 + ms2) M (pc, ls, st, h) Q := by
  intro d' hd' p l e s m args below meth c D cA A MC MS Qc F hr hlk hN ad H locs cells slots Ls h1 h2 L k
  obtain ⟨hx, hb, hml, hown, hts, hin, hfr, hlo⟩ := id F
  obtain ⟨hK, hP, hD, hS, hL, hSx, hA⟩ := id L
  dsimp only at hL k hP hD ⊢
  subst hst
  generalize hadc : (fun k => ad (rnI io k)) = adc
  have hadk : ∀ k, adc k = ad (rnI io k) := fun k => by rw [← hadc]
  have hsB : sB = 1000000 := rfl
  have inio : ∀ (j : Nat), j < hc.length → ∃ kk, io[j]? = some kk ∧ adc j = ad kk ∧ kk < h.length := by
    intro j hj
    have hjl : j < io.length := by rw [hlen]; exact hj
    have g0 := List.getElem?_eq_getElem hjl
    obtain ⟨e1, g1, g2⟩ := hcells j _ g0
    exact ⟨_, g0, by rw [hadk, rnI_lt g0 (by omega)], (List.getElem?_eq_some_iff.mp g2).1⟩
  -- the callee's world is a part of the caller's
  have part : ∀ (j : Nat) (q : Nat × va_E), (wd adc cA hc)[j]? = some q → ∃ kk, io[j]? = some kk ∧ (wd ad cA h)[kk]? = some q := by
    intro j q hq
    rw [wd_get] at hq
    cases hj : hc[j]? with
    | none => rw [hj] at hq; cases hq
    | some e0 =>
      rw [hj] at hq
      cases hq
      obtain ⟨kk, g0, g1, -⟩ := inio j (List.getElem?_eq_some_iff.mp hj).1
      obtain ⟨e1, g2, g3⟩ := hcells j _ g0
      rw [hj] at g2
      cases g2
      refine ⟨kk, g0, ?_⟩
      rw [wd_get, g3, ← g1]
      simp only [Option.map_some]
      rw [trE_trE, hadc]
  have hPc : va_P D vwCl (wd adc cA hc) H := fun j q hq => by
    obtain ⟨kk, -, g⟩ := part j q hq
    exact hP kk q g
  have hDc : va_D (fun _ => True) (wd adc cA hc) := by
    refine ⟨fun i j q1 q2 hi hj he => ?_, fun _ _ _ => trivial⟩
    obtain ⟨k1, g1, g2⟩ := part i q1 hi
    obtain ⟨k2, g3, g4⟩ := part j q2 hj
    have := hD.1 k1 k2 q1 q2 g2 g4 he
    subst this
    exact va_nd_inj io hnd i j k1 g1 g3
  have hFc : ∀ q, va_A (wd adc cA hc) H.size q → A q := by
    intro q hq
    rcases hq with ⟨j, e0, hq⟩ | hq
    · obtain ⟨kk, -, g⟩ := part j _ hq
      exact hD.2 kk _ g
    · exact hA q (Nat.le_trans hS.1 hq)
  have hSc : Sx adc (va_A (wd adc cA hc) H.size) s H := ((hSx.kept (H1 := H) hS.2.1).narrow hFc).ext (fun j hj => by rw [hadk, rnI_big io hj])
  obtain ⟨dd, rfl⟩ : ∃ dd, d' = dd + 1 := ⟨d' - 1, by omega⟩
  have hM : Met l M'.1 (wsM M') (rmD dd mc1 ms1) (PcM D cA adc H.size hc as) (QcM D cA adc H.size hc Q1) mc1 ms1 (va_A (wd adc cA hc) H.size) := P0.met hG' hsa hsub (by omega) l D cA adc H.size
  have hPre : ∀ U : State, U.heap = H → s.WarmedH U.vm → PcM D cA adc H.size hc as (as.map (trV adc)).toArray U := fun U hU hW =>
    ⟨rfl, by rw [hU], by rw [hU]; exact hPc, va_K.moved hW.alike hK, hDc, by rw [hU]; exact hSc.warm hW, hN.warm hW⟩
  have hasr : (as.map (trV (rnI io))).map (trV ad) = as.map (trV adc) := by
    rw [List.map_map]
    congr 1
    funext v
    simp only [Function.comp]
    rw [trV_trV, hadc]
  have hRm : (rmD dd mc1 ms1).frames + 1 ≤ (rmD (dd + 1) MC MS).frames ∧ 8 + (M'.2.2.1 + 11) + (rmD dd mc1 ms1).locals ≤ (rmD (dd + 1) MC MS).locals := by
    have := hG'.2.2.2.2.1
    refine ⟨Nat.le_refl _, ?_⟩
    show 8 + (M'.2.2.1 + 11) + 60 * (dd + 1) ≤ 60 * (dd + 1 + 1)
    omega
  have hrun : va_Run p l e (rmD (dd + 1) MC MS) s m args below meth c H locs cells slots mc1 ms1 (F0 m pc Ls (((as.map (trV (rnI io))).reverse ++ rest).map (trV ad))) (rest.map (trV ad)) (QcM D cA adc H.size hc Q1 (as.map (trV adc)).toArray) (va_A (wd adc cA hc) H.size) := by
    have hstk : ((as.map (trV (rnI io))).reverse ++ rest).map (trV ad) = (as.map (trV adc)).reverse ++ rest.map (trV ad) := by
      rw [List.map_append, List.map_reverse, hasr]
    rw [hstk]
    have hfix : CallFix p m c M.2.1 M.2.2.1 s args lw_U M.1.cls := ⟨hx, hb, hml, hown, hts⟩
    have hini := hts _ (inU hG'.2.2.1 rfl)
    have hW : 2 * (F0 m pc Ls ((as.map (trV adc)).reverse ++ rest.map (trV ad))).monitorRoom + ((rest.map (trV ad)).map fun v => v.category).sum ≤ 8 := lv_room (by rw [sumc_tr]; exact hsum)
    have hf : cells + mc1 ≤ (rmD (dd + 1) MC MS).cells ∧ slots + ms1 ≤ (rmD (dd + 1) MC MS).slots := ⟨by show cells + mc1 ≤ MC; omega, by show slots + ms1 ≤ MS; omega⟩
    obtain ⟨hn, hcall⟩ := hcall
    have hdd := And.intro hG'.2.2.2.1.1 (And.intro hG'.2.2.2.1.2 hn)
    match kind, hcall, hargs with
    | 0, ⟨i, hd, w1, w2, w3⟩, harg =>
      obtain ⟨b, as', rfl, hl, hrv⟩ := harg
      have hrecv : ∃ cellB : Cell, H[adc b]? = some cellB ∧ cellB.vm.isStatics = false ∧ s.vm.findClass M'.1.cls = some cellB.cls := by
        rcases hrv with ⟨ci, fs, T, N, g1, g2⟩ | ⟨g1, g2, g3⟩
        · exact va_recv hK hPc g2 (wd_at g1)
        · obtain ⟨i9, hi9⟩ : ∃ i9 : Nat, sB + i9 = b := ⟨b - sB, Nat.add_sub_cancel' g2⟩
          rw [← hi9] at g3
          have h13 : i9 < 13 := Nat.lt_of_add_lt_add_left g3
          rw [hi9] at g3
          have := vk_recv hSx.1 h13 hS
          rw [g1, hadk, rnI_big io g2, ← hi9]
          exact this
      exact va_runV (As := as'.map (trV adc)) hfix hM ⟨callB_of n hts (goodU M' hG') rfl rfl rfl hini (hts _ w1) hdd hRm, hts _ w2, hts _ w3⟩ ⟨PcM.blind, hrecv, hPre⟩ rfl (by rw [List.length_map]; exact hl) (hL.2.1) (by simp [trV]) hW hd hf
    | 1, ⟨i, hd, w1, w2⟩, hl =>
      exact va_runS (As := as.map (trV adc)) hfix hM ⟨callB_of n hts (goodU M' hG') rfl rfl rfl hini (hts _ w1) hdd hRm, hts _ w2⟩ ⟨PcM.blind, hPre⟩ rfl (by rw [List.length_map]; exact hl) (hL.2.1) rfl hW hd hf
    | 2, ⟨i, hd, w1, w2, w3, w4⟩, harg =>
      obtain ⟨b, as', rfl, hl⟩ := harg
      exact va_runI (As := as'.map (trV adc)) hfix hM ⟨callB_of n hts (goodU M' hG') (by unfold wsM; rw [w4]) rfl rfl hini (hts _ w1) hdd hRm, w3, hts _ w2⟩ ⟨PcM.blind, hPre⟩ rfl (by rw [List.length_map]; exact hl) (hL.2.1) (by simp [trV]) hW hd hf
    | k9 + 3, ⟨i, host, hd, w1, w2, w3, w4⟩, harg =>
      obtain ⟨b, as', rfl, hl⟩ := harg
      exact va_runIN (As := as'.map (trV adc)) hfix hM ⟨va_cnB n hts (goodU M' hG') (by unfold wsM; rw [w4]) rfl rfl (va_Nw.of rfl (hts _ w1)) hini hdd hRm, w3, hts _ w2⟩ ⟨PcM.blind, hPre⟩ rfl (by rw [List.length_map]; exact hl) (hL.2.1) (by simp [trV]) hW hd hf
  intro T hT X
  obtain ⟨v, st₀, t, T', L', g0, X', hfree, e1, e2, ⟨r, hc', adc', hv, hq, hlen', hE, hP1, hD1, hz, hkeep⟩, hgo⟩ := hrun T hT X
  cases hv
  rw [g0] at hz hkeep
  obtain ⟨w1, w2, w3⟩ := hwf r hc' hq
  generalize hnw : hc'.length - hc.length = nw at w1
  have hnl : hc'.length = hc.length + nw := by omega
  have hK9 := hk r hc' hq hlen'
  rw [hnw] at hK9
  generalize hio' : newI io h.length nw = io' at hK9
  have hiol : io'.length = hc'.length := by rw [← hio']; simp [newI]; omega
  have io_old : ∀ j kk, io[j]? = some kk → io'[j]? = some kk := fun j kk hj => by
    rw [← hio']
    unfold newI
    rw [List.getElem?_append_left (List.getElem?_eq_some_iff.mp hj).1]
    exact hj
  have io_new : ∀ t9, t9 < nw → io'[hc.length + t9]? = some (h.length + t9) := fun t9 ht9 => by
    rw [← hio']
    unfold newI
    rw [List.getElem?_append_right (by omega), List.getElem?_range' (by omega)]
    simp
    omega
  generalize had' : adB ad adc' h.length hc.length nw = ad'
  have hadn : ∀ k, ad' k = if h.length ≤ k ∧ k < h.length + nw then adc' (hc.length + (k - h.length)) else ad k := fun k => by rw [← had']; rfl
  have ad_old : ∀ k, k < h.length → ad' k = ad k := fun k hk => by rw [hadn, if_neg (by omega)]
  have hext : Ext ad ad' h.length (h.length + nw) := fun k hk => by rw [hadn, if_neg (by omega)]
  have hcomp : (fun j => ad' (rnI io' j)) = adc' := by
    funext j
    by_cases hj : sB ≤ j
    · rw [rnI_big io' hj, hadn, if_neg (by omega), hE j (Or.inr (by omega)), hadk, rnI_big io hj]
    · by_cases hj1 : j < hc.length
      · obtain ⟨kk, q1, q2, q3⟩ := inio j hj1
        rw [rnI_lt (io_old j kk q1) (by omega), ad_old kk q3, hE j (Or.inl hj1), q2]
      · by_cases hj2 : j < hc'.length
        · obtain ⟨t9, rfl⟩ : ∃ t9, j = hc.length + t9 := ⟨j - hc.length, by omega⟩
          rw [rnI_lt (io_new t9 (by omega)) (by omega), hadn, if_pos (by omega)]
          congr 1
          omega
        · rw [rnI_none (by omega) (by omega), hadn, if_neg (by omega), hE j (Or.inr (by omega)), hadk, rnI_none (by omega) (by omega)]
  have same : ∀ v : Value, (hc'.length = hc.length ∨ wfV h.length v) → trV ad' v = trV ad v := by
    intro v hv
    cases v <;> try rfl
    next a =>
      refine congrArg Value.ref ?_
      rw [hadn, if_neg]
      rcases hv with hv | hv
      · omega
      · intro q
        rcases hv with hv | hv
        · exact absurd (Nat.lt_of_lt_of_le hv q.1) (Nat.lt_irrefl _)
        · exact absurd (Nat.lt_of_le_of_lt hv (Nat.lt_of_lt_of_le q.2 w1)) (by unfold sB; decide)
  have sameE : ∀ v : va_E, (hc'.length = hc.length ∨ wfE h.length v) → trE ad' cA v = trE ad cA v := by
    intro v hv
    by_cases hn0 : nw = 0
    · have : ad' = ad := by funext k; rw [hadn, if_neg (by omega)]
      rw [this]
    · have hv : wfE h.length v := by
        rcases hv with hv | hv
        · omega
        · exact hv
      rcases v with ⟨k0, m0, f | f | f | f | f⟩ | ⟨ci, fs⟩ <;> try rfl
      · simp only [trE]
        congr 8
        funext j
        cases hj : f j with
        | none => rfl
        | some y =>
          have hy : y < h.length ∨ sB ≤ y := hv j y hj
          refine congrArg some ?_
          rw [hadn, if_neg (by omega)]
      · simp only [trE]
        congr 2
        exact List.map_congr_left (fun v9 hv9 => same v9 (Or.inr (hv v9 hv9)))
  have hlc : io.length ≤ (hc'.map (trE (rnI io') (fun k => k))).length := by rw [List.length_map]; omega
  have adlt : ∀ k, k < h.length → ad k < H.size := by
    intro k hk
    have := (hP k _ (by rw [wd_get, List.getElem?_eq_getElem hk]; rfl)).lt
    exact this
  have notc : ∀ k, k < h.length → k ∉ io → ¬ va_A (wd adc cA hc) H.size (ad k) := by
    intro k hk hni hq
    rcases hq with ⟨j, e0, hq⟩ | hq
    · obtain ⟨kk, q1, q2⟩ := part j _ hq
      have := hD.1 kk k _ (ad k, trE ad cA h[k]) q2 (by rw [wd_get, List.getElem?_eq_getElem hk]; rfl) rfl
      subst this
      exact hni (List.mem_of_getElem? q1)
    · exact absurd (adlt k hk) (by omega)
  -- what stands in the caller's heap behind the call, by places
  have look : ∀ (k : Nat) (e0 : va_E), (putL h io (hc'.map (trE (rnI io') (fun k => k))))[k]? = some e0 →
      (∃ (j : Nat) (e1 : va_E), hc'[j]? = some e1 ∧ e0 = trE (rnI io') (fun k => k) e1 ∧ ad' k = adc' j ∧ io'[j]? = some k) ∨ (k < h.length ∧ k ∉ io ∧ h[k]? = some e0) := by
    intro k e0 hk
    by_cases hkl : k < h.length
    · by_cases hki : k ∈ io
      · obtain ⟨j, hj⟩ := List.getElem?_of_mem hki
        rw [putL_in io h _ j k hnd hj hkl hlc, List.getElem?_map] at hk
        cases hj2 : hc'[j]? with
        | none => rw [hj2] at hk; cases hk
        | some e1 =>
          rw [hj2] at hk
          cases hk
          refine Or.inl ⟨j, e1, hj2, rfl, ?_, io_old j k hj⟩
          have hjc : j < hc.length := by rw [← hlen]; exact (List.getElem?_eq_some_iff.mp hj).1
          rw [ad_old k hkl, hE j (Or.inl hjc), hadk, rnI_lt hj (by omega)]
      · rw [putL_out io h _ k hkl hki hlc] at hk
        exact Or.inr ⟨hkl, hki, hk⟩
    · obtain ⟨t9, rfl⟩ : ∃ t9, k = h.length + t9 := ⟨k - h.length, by omega⟩
      rw [putL_new io h _ t9 hlc, List.getElem?_map] at hk
      cases hj2 : hc'[io.length + t9]? with
      | none => rw [hj2] at hk; cases hk
      | some e1 =>
        rw [hj2] at hk
        cases hk
        have ht9 : t9 < nw := by
          have := (List.getElem?_eq_some_iff.mp hj2).1
          omega
        refine Or.inl ⟨io.length + t9, e1, hj2, rfl, ?_, by rw [hlen]; exact io_new t9 ht9⟩
        rw [hadn, if_pos (by omega), hlen]
        congr 1
        omega
  have hPn : va_P D vwCl (wd ad' cA (putL h io (hc'.map (trE (rnI io') (fun k => k))))) T'.heap := by
    intro k q hq
    rw [wd_get] at hq
    cases hk : (putL h io (hc'.map (trE (rnI io') (fun k => k))))[k]? with
    | none => rw [hk] at hq; cases hq
    | some e0 =>
      rw [hk] at hq
      cases hq
      dsimp only
      rcases look k e0 hk with ⟨j, x1, q1, rfl, q2, q3⟩ | ⟨q1, q2, q3⟩
      · rw [trE_trE, hcomp, q2, e1]
        exact hP1 j _ (by rw [wd_get, q1]; rfl)
      · have hwe : hc'.length = hc.length ∨ wfE h.length e0 := by
          rcases w3 with w3 | w3
          · exact Or.inl w3
          · exact Or.inr (w3.2.2.2 e0 (List.mem_of_getElem? q3))
        rw [sameE e0 hwe, ad_old k q1, e1]
        exact (hP k _ (by rw [wd_get, q3]; rfl)).kept (hkeep _ (adlt k q1) (notc k q1 q2))
  have hDn : va_D A (wd ad' cA (putL h io (hc'.map (trE (rnI io') (fun k => k))))) := by
    have addr : ∀ (k : Nat) (q : Nat × va_E), (wd ad' cA (putL h io (hc'.map (trE (rnI io') (fun k => k)))))[k]? = some q →
        (∃ (j : Nat) (e1 : va_E), hc'[j]? = some e1 ∧ q.1 = adc' j ∧ io'[j]? = some k) ∨ (k < h.length ∧ k ∉ io ∧ q.1 = ad k) := by
      intro k q hq
      rw [wd_get] at hq
      cases hk : (putL h io (hc'.map (trE (rnI io') (fun k => k))))[k]? with
      | none => rw [hk] at hq; cases hq
      | some e0 =>
        rw [hk] at hq
        cases hq
        rcases look k e0 hk with ⟨j, e1, q1, -, q2, q3⟩ | ⟨q1, q2, -⟩
        · exact Or.inl ⟨j, e1, q1, q2, q3⟩
        · exact Or.inr ⟨q1, q2, ad_old k q1⟩
    have inA1 : ∀ (j : Nat) (e1 : va_E), hc'[j]? = some e1 → va_A (wd adc cA hc) H.size (adc' j) := fun j e1 hj => hD1.2 j (adc' j, trE adc' cA e1) (by rw [wd_get, hj]; rfl)
    refine ⟨fun i j q1 q2 hi hj he => ?_, fun k q hq => ?_⟩
    · rcases addr i q1 hi with ⟨a1, b1, c1, d1, f1⟩ | ⟨c1, d1, f1⟩ <;> rcases addr j q2 hj with ⟨a2, b2, c2, d2, f2⟩ | ⟨c2, d2, f2⟩
      · have := hD1.1 a1 a2 (adc' a1, trE adc' cA b1) (adc' a2, trE adc' cA b2) (by rw [wd_get, c1]; rfl) (by rw [wd_get, c2]; rfl) (by rw [← d1, he, d2])
        subst this
        exact Option.some.inj (f1.symm.trans f2)
      · exfalso
        exact notc j c2 d2 (by rw [← f2, ← he, d1]; exact inA1 a1 b1 c1)
      · exfalso
        exact notc i c1 d1 (by rw [← f1, he, d2]; exact inA1 a2 b2 c2)
      · exact hD.1 i j (ad i, trE ad cA h[i]) (ad j, trE ad cA h[j]) (by rw [wd_get, List.getElem?_eq_getElem c1]; rfl) (by rw [wd_get, List.getElem?_eq_getElem c2]; rfl) (by rw [← f1, he, f2])
    · rcases addr k q hq with ⟨a1, b1, c1, d1, f1⟩ | ⟨c1, d1, f1⟩
      · rw [d1]; exact hFc _ (inA1 a1 b1 c1)
      · rw [f1]; exact hD.2 k (ad k, trE ad cA h[k]) (by rw [wd_get, List.getElem?_eq_getElem c1]; rfl)
  have hSn : va_S A s.heap T'.heap (locs ++ L') := ⟨Nat.le_trans hS.1 (by rw [e1]; exact hz), fun q h1 h2 => by rw [e1, hkeep q (Nat.lt_of_lt_of_le h1 hS.1) (fun z => h2 (hFc q z))]; exact hS.2.1 q h1 h2, fun q hq9 => by
      rcases List.mem_append.mp hq9 with h9 | h9
      · exact hS.2.2 q h9
      · exact hFc _ (hfree q h9)⟩
  have hLn : LR ad' M.2.2.1 Ls ls := by
    refine ⟨hL.1, hL.2.1, hL.2.2.1, fun i v hv => ?_⟩
    have hwv : hc'.length = hc.length ∨ wfV h.length v := by
      rcases w3 with w3 | w3
      · exact Or.inl w3
      · exact Or.inr (w3.2.1 _ (List.mem_of_getElem? hv) v rfl)
    rw [same v hwv]
    exact hL.2.2.2 i v hv
  have hrest : rest.map (trV ad') = rest.map (trV ad) := by
    refine List.map_congr_left (fun v hv => same v ?_)
    rcases w3 with w3 | w3
    · exact Or.inl w3
    · exact Or.inr (w3.2.2.1 v hv)
  have hgoal := hK9 (dd + 1) hd' p l e s m args below meth c D cA A MC MS Qc F hr hlk hN ad' T'.heap (locs ++ L') (cells + mc1) (slots + ms1) Ls (by omega) (by omega) ⟨hK, hPn, hDn, hSn, hLn, hSx.ext (fun j hj => by rw [hadn, if_neg (by omega)]), hA⟩
    (fun r' h' ad2 H2 locs2 q hl2 hE2 => k r' h' ad2 H2 locs2 q (Nat.le_trans (by rw [putL_len io h _ hlc]; omega) hl2) (by
      have hE3 : Ext ad ad' h.length (putL h io (hc'.map (trE (rnI io') (fun k => k)))).length := by
        rw [putL_len io h _ hlc, List.length_map, hlen, hnw]
        exact hext
      exact hE3.trans hE2 (by rw [putL_len io h _ hlc]; omega) hl2))
  have hstk2 : (pushR (r.map (trV (rnI io'))) rest).map (trV ad') = (r.map (trV adc')).toList ++ rest.map (trV ad) := by
    unfold pushR
    rw [List.map_append, hrest]
    congr 1
    cases r with
    | none => rfl
    | some v =>
      simp only [Option.map_some, Option.toList_some, List.map_cons, List.map_nil]
      rw [trV_trV, hcomp]
  dsimp only at hgoal
  rw [hstk2] at hgoal
  obtain ⟨t2, a1, b1⟩ := hgoal T' rfl X'
  exact ⟨t2, hgo t2 a1, b1⟩
