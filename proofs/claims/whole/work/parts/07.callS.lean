/-! ===== calls over the same cells; blocks ===== -/
theorem P0.callS {d mc1 ms1 mc2 ms2 : Nat} {M M' : MI} {pc kind n : Nat} {ls : List (Option Value)} {st rest as : List Value} {h : PH} {Q1 Q : Option Value → PH → Prop}
    (hG' : Good M') (hcall : CallAt M pc kind M' n) (hst : st = as.reverse ++ rest) (hargs : argsOk kind n M' h as) (hsum : sumc rest ≤ 8) (hsa : sumc as ≤ M'.2.2.1)
    (hsub : P0 d mc1 ms1 M' (0, ent M'.2.2.1 as, [], h) Q1)
    (hwf : ∀ r h', Q1 r h' → h'.length ≤ 999999 ∧ (h'.length = h.length ∨ wfP ls rest h))
    (hk : ∀ r h', Q1 r h' → h.length ≤ h'.length → P0 (d + 1) mc2 ms2 M (pc + 3, ls, pushR r rest, h') Q) :
    P0 (d + 1) (mc1 + mc2) (ms1 + ms2) M (pc, ls, st, h) Q := by
  intro d' hd' p l e s m args below meth c D cA A MC MS Qc F hr hlk hN ad H locs cells slots Ls h1 h2 L k
  obtain ⟨hx, hb, hml, hown, hts, hin, hfr, hlo⟩ := id F
  obtain ⟨hK, hP, hD, hS, hL, hSx, hA⟩ := id L
  dsimp only at hL k hP hD ⊢
  subst hst
  have hsB : sB = 1000000 := rfl
  have hFc : ∀ q, va_A (wd ad cA h) H.size q → A q := by
    intro q hq
    rcases hq with ⟨j, e0, hq⟩ | hq
    · exact hD.2 j _ hq
    · exact hA q (Nat.le_trans hS.1 hq)
  have hSc : Sx ad (va_A (wd ad cA h) H.size) s H := (hSx.kept (H1 := H) hS.2.1).narrow hFc
  obtain ⟨dd, rfl⟩ : ∃ dd, d' = dd + 1 := ⟨d' - 1, by omega⟩
  have hM : Met l M'.1 (wsM M') (rmD dd mc1 ms1) (PcM D cA ad H.size h as) (QcM D cA ad H.size h Q1) mc1 ms1 (va_A (wd ad cA h) H.size) := P0.met hG' hsa hsub (by omega) l D cA ad H.size
  have hPre : ∀ U : State, U.heap = H → s.WarmedH U.vm → PcM D cA ad H.size h as (as.map (trV ad)).toArray U := fun U hU hW =>
    ⟨rfl, by rw [hU], by rw [hU]; exact hP, va_K.moved hW.alike hK, hD.weaken (fun _ _ _ _ => trivial), by rw [hU]; exact hSc.warm hW, hN.warm hW⟩
  have hRm : (rmD dd mc1 ms1).frames + 1 ≤ (rmD (dd + 1) MC MS).frames ∧ 8 + (M'.2.2.1 + 11) + (rmD dd mc1 ms1).locals ≤ (rmD (dd + 1) MC MS).locals := by
    have := hG'.2.2.2.2.1
    refine ⟨Nat.le_refl _, ?_⟩
    show 8 + (M'.2.2.1 + 11) + 60 * (dd + 1) ≤ 60 * (dd + 1 + 1)
    omega
  have hrun : va_Run p l e (rmD (dd + 1) MC MS) s m args below meth c H locs cells slots mc1 ms1 (F0 m pc Ls ((as.reverse ++ rest).map (trV ad))) (rest.map (trV ad)) (QcM D cA ad H.size h Q1 (as.map (trV ad)).toArray) (va_A (wd ad cA h) H.size) := by
    have hstk : (as.reverse ++ rest).map (trV ad) = (as.map (trV ad)).reverse ++ rest.map (trV ad) := by
      rw [List.map_append, List.map_reverse]
    rw [hstk]
    have hfix : CallFix p m c M.2.1 M.2.2.1 s args lw_U M.1.cls := ⟨hx, hb, hml, hown, hts⟩
    have hini := hts _ (inU hG'.2.2.1 rfl)
    have hW : 2 * (F0 m pc Ls ((as.map (trV ad)).reverse ++ rest.map (trV ad))).monitorRoom + ((rest.map (trV ad)).map fun v => v.category).sum ≤ 8 := lv_room (by rw [sumc_tr]; exact hsum)
    have hf : cells + mc1 ≤ (rmD (dd + 1) MC MS).cells ∧ slots + ms1 ≤ (rmD (dd + 1) MC MS).slots := ⟨by show cells + mc1 ≤ MC; omega, by show slots + ms1 ≤ MS; omega⟩
    obtain ⟨hn, hcall⟩ := hcall
    have hdd := And.intro hG'.2.2.2.1.1 (And.intro hG'.2.2.2.1.2 hn)
    match kind, hcall, hargs with
    | 0, ⟨i, hd, w1, w2, w3⟩, harg =>
      obtain ⟨b, as', rfl, hl, hrv⟩ := harg
      have hrecv : ∃ cellB : Cell, H[ad b]? = some cellB ∧ cellB.vm.isStatics = false ∧ s.vm.findClass M'.1.cls = some cellB.cls := by
        rcases hrv with ⟨ci, fs, T, N, g1, g2⟩ | ⟨g1, g2, g3⟩
        · exact va_recv hK hP g2 (wd_at g1)
        · obtain ⟨i9, hi9⟩ : ∃ i9 : Nat, sB + i9 = b := ⟨b - sB, Nat.add_sub_cancel' g2⟩
          rw [← hi9] at g3
          have h13 : i9 < 13 := Nat.lt_of_add_lt_add_left g3
          have := vk_recv hSx.1 h13 hS
          rw [g1, ← hi9]
          exact this
      exact va_runV (As := as'.map (trV ad)) hfix hM ⟨callB_of n hts (goodU M' hG') rfl rfl rfl hini (hts _ w1) hdd hRm, hts _ w2, hts _ w3⟩ ⟨PcM.blind, hrecv, hPre⟩ rfl (by rw [List.length_map]; exact hl) (hL.2.1) (by simp [trV]) hW hd hf
    | 1, ⟨i, hd, w1, w2⟩, hl =>
      exact va_runS (As := as.map (trV ad)) hfix hM ⟨callB_of n hts (goodU M' hG') rfl rfl rfl hini (hts _ w1) hdd hRm, hts _ w2⟩ ⟨PcM.blind, hPre⟩ rfl (by rw [List.length_map]; exact hl) (hL.2.1) rfl hW hd hf
    | 2, ⟨i, hd, w1, w2, w3, w4⟩, harg =>
      obtain ⟨b, as', rfl, hl⟩ := harg
      exact va_runI (As := as'.map (trV ad)) hfix hM ⟨callB_of n hts (goodU M' hG') (by unfold wsM; rw [w4]) rfl rfl hini (hts _ w1) hdd hRm, w3, hts _ w2⟩ ⟨PcM.blind, hPre⟩ rfl (by rw [List.length_map]; exact hl) (hL.2.1) (by simp [trV]) hW hd hf
    | k9 + 3, ⟨i, host, hd, w1, w2, w3, w4⟩, harg =>
      obtain ⟨b, as', rfl, hl⟩ := harg
      exact va_runIN (As := as'.map (trV ad)) hfix hM ⟨va_cnB n hts (goodU M' hG') (by unfold wsM; rw [w4]) rfl rfl (va_Nw.of rfl (hts _ w1)) hini hdd hRm, w3, hts _ w2⟩ ⟨PcM.blind, hPre⟩ rfl (by rw [List.length_map]; exact hl) (hL.2.1) (by simp [trV]) hW hd hf
  intro T hT X
  obtain ⟨v, st₀, t, T', L', g0, X', hfree, e1, e2, ⟨r, h', ad', hv, hq, hlen', hE, hP1, hD1, hz, hkeep⟩, hgo⟩ := hrun T hT X
  cases hv
  rw [g0] at hz hkeep
  obtain ⟨w2, w3⟩ := hwf r h' hq
  have same : ∀ v : Value, (h'.length = h.length ∨ wfV h.length v) → trV ad' v = trV ad v := by
    intro v hv
    cases v <;> try rfl
    next a =>
      refine congrArg Value.ref ?_
      rcases hv with hv | hv
      · exact hE a (by rw [hv]; exact Nat.lt_or_ge a _)
      · rcases hv with hv | hv
        · exact hE a (Or.inl hv)
        · exact hE a (Or.inr (Nat.le_trans (Nat.le_trans w2 (by unfold sB; decide)) hv))
  have hSn : va_S A s.heap T'.heap (locs ++ L') := ⟨Nat.le_trans hS.1 (by rw [e1]; exact hz), fun q h1 h2 => by rw [e1, hkeep q (Nat.lt_of_lt_of_le h1 hS.1) (fun z => h2 (hFc q z))]; exact hS.2.1 q h1 h2, fun q hq9 => by
      rcases List.mem_append.mp hq9 with h9 | h9
      · exact hS.2.2 q h9
      · exact hFc _ (hfree q h9)⟩
  have hLn : LR ad' M.2.2.1 Ls ls := by
    refine ⟨hL.1, hL.2.1, hL.2.2.1, fun i v hv => ?_⟩
    have hwv : h'.length = h.length ∨ wfV h.length v := by
      rcases w3 with w3 | w3
      · exact Or.inl w3
      · exact Or.inr (w3.2.1 _ (List.mem_of_getElem? hv) v rfl)
    rw [same v hwv]
    exact hL.2.2.2 i v hv
  have hrest : rest.map (trV ad') = rest.map (trV ad) := by
    refine List.map_congr_left (fun v hv => same v ?_)
    rcases w3 with w3 | w3
    · exact Or.inl w3
    · exact Or.inr (w3.2.2.1 v hv)
  have hgoal := hk r h' hq hlen' (dd + 1) hd' p l e s m args below meth c D cA A MC MS Qc F hr hlk hN ad' T'.heap (locs ++ L') (cells + mc1) (slots + ms1) Ls (by omega) (by omega) ⟨hK, by rw [e1]; exact hP1, hD1.weaken (fun _ _ _ h9 => hFc _ h9), hSn, hLn, hSx.ext (fun j hj => hE j (Or.inr (Nat.le_trans (Nat.le_trans w2 (by unfold sB; decide)) hj))), hA⟩
    (fun r' h2' ad2 H2 locs2 q hl2 hE2 => k r' h2' ad2 H2 locs2 q (Nat.le_trans hlen' hl2) (hE.trans hE2 hlen' hl2))
  have hstk2 : (pushR r rest).map (trV ad') = (r.map (trV ad')).toList ++ rest.map (trV ad) := by
    unfold pushR
    rw [List.map_append, hrest]
    congr 1
    cases r <;> rfl
  dsimp only at hgoal
  rw [hstk2] at hgoal
  obtain ⟨t2, a1, b1⟩ := hgoal T' rfl X'
  exact ⟨t2, hgo t2 a1, b1⟩
/-- a block of instructions -/
theorem P0.blk {d mc ms : Nat} {M : MI} {Q : Option Value → PH → Prop} (hG : Good M) : ∀ (n : Nat) {cf cf' : CF} {ob : List Prop} {dc ds : Nat}, runN n M cf = some (ob, dc, ds, cf') → AllP ob → P0 d mc ms M cf' Q → P0 d (mc + dc) (ms + ds) M cf Q
  | 0, cf, cf', ob, dc, ds, h, _, k => by
    simp only [runN, Option.some.injEq, Prod.mk.injEq] at h
    obtain ⟨rfl, rfl, rfl, rfl⟩ := h
    exact k
  | n + 1, cf, cf', ob, dc, ds, h, ho, k => by
    simp only [runN] at h
    split at h
    · cases h
    · next op hop =>
      split at h
      · cases h
      · next r hr =>
        split at h
        · cases h
        · next r2 hr2 =>
          obtain ⟨a1, a2, a3, a4⟩ := r
          obtain ⟨b1, b2, b3, b4⟩ := r2
          cases h
          have h2 := P0.blk (d := d) (mc := mc) (ms := ms) (Q := Q) hG n hr2 ho.app.2 k
          have h3 := P0.run hG hop hr ho.app.1 h2
          have e1 : mc + (a2 + b2) = mc + b2 + a2 := by omega
          have e2 : ms + (a3 + b3) = ms + b3 + a3 := by omega
          show P0 d (mc + (a2 + b2)) (ms + (a3 + b3)) M cf Q
          rw [e1, e2]
          exact h3
