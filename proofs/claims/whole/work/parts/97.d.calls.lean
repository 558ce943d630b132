/-! ===== one round: a method of the one, then the same of the other ===== -/
theorem INV.ln {hx hm : PH} (hI : INV hx hm) : hx.length ≤ 64 ∧ hm.length = 18 := by
  obtain ⟨tc, h6, l1, l2⟩ := hI.len
  exact ⟨by omega, l2⟩
theorem sB_82 : 82 < sB := by unfold sB; decide
theorem sB_0 : 0 < sB := by unfold sB; decide
theorem LH.bd {h : PH} {io1 io2 : List Nat} {hx hm : PH} (q : LH h io1 io2 hx hm) (l1 : hx.length ≤ 64) (l2 : hm.length = 18) : h.length ≤ 82 := by
  have := q.2.2.2.2.2.2; omega
theorem LH.sb {h : PH} {io1 io2 : List Nat} {hx hm : PH} (q : LH h io1 io2 hx hm) (hI : INV hx hm) : h.length < sB := Nat.lt_of_le_of_lt (q.bd hI.ln.1 hI.ln.2) sB_82
def intsV (as : List Value) : Prop := ∀ v ∈ as, ∃ i : Int32, v = .int i
theorem ints_tr (f : Nat → Nat) : ∀ {as : List Value}, intsV as → as.map (trV f) = as
  | [], _ => rfl
  | v :: as, h => by
    obtain ⟨i, rfl⟩ := h v List.mem_cons_self
    rw [List.map_cons, ints_tr f (fun w hw => h w (List.mem_cons_of_mem _ hw))]
    rfl
section CC
variable {M Mx Mm : MI} {b L : Nat} {xs : Nat → Int32} {pc n : Nat} {ls : List (Option Value)} {as : List Value} {h : PH} {io1 io2 : List Nat} {hx hm : PH} {Qx Qm : Option Value → PH → Prop} {mc ms : Nat}
theorem PL.c1 (hG : Good Mx) (hc : CallAt M pc 0 Mx n) (hcl : ∃ T N, vwCl[7]? = some (Mx.1.cls, T, N)) (hn : as.length = n) (hai : intsV as) (hsa : sumc (.ref 0 :: as) ≤ Mx.2.2.1) (q : LH h io1 io2 hx hm) (hI : INV hx hm) (hls : ∀ o ∈ ls, ∀ v, o = some v → wfV h.length v) (hx0 : P0 64 3 165 Mx (0, ent Mx.2.2.1 (.ref 0 :: as), [], hx) Qx) (hl1 : ∀ r h1, Qx r h1 → h1.length ≤ 64 ∧ ∃ v, r = some v ∧ ∀ f, trV f v = v)
    (k : ∀ v h1 h' io1', Qx (some v) h1 → h.length ≤ h'.length → LH h' io1' io2 h1 hm → PL M b L xs mc ms (pc + 3, ls, [v], h')) : PL M b L xs (3 + mc) (165 + ms) (pc, ls, as.reverse ++ [.ref 0], h) := by
  obtain ⟨p1, p2, ap, cv, f1, f2, hle⟩ := id q
  obtain ⟨l1, l2⟩ := hI.ln
  have hr0 : rnI io1 0 = 0 := rnI_lt f1 sB_0
  have hst : as.reverse ++ [.ref 0] = ((Value.ref 0 :: as).map (trV (rnI io1))).reverse ++ [] := by
    rw [List.map_cons, ints_tr _ hai, List.reverse_cons, List.append_nil]
    show _ = as.reverse ++ [Value.ref (rnI io1 0)]
    rw [hr0]
  obtain ⟨T, N, hv⟩ := hcl
  obtain ⟨⟨fs, ho⟩, _⟩ := hI.obj
  refine PL.call (io := io1) (as := .ref 0 :: as) (rest := []) (hc := hx) hG hc hst ⟨0, as, rfl, hn, .inl ⟨7, fs, T, N, ho, hv⟩⟩ (by decide) hsa p1.1 (by omega) p1.2.1 p1.2.2 hx0 (fun r h1 q1 => ?_) (fun r h1 q1 hle1 => ?_)
  · obtain ⟨e1, _⟩ := hl1 r h1 q1
    exact ⟨by omega, by omega, .inr ⟨q.sb hI, hls, fun v hv => absurd hv List.not_mem_nil, q.wf hI.wf.1 hI.wf.2 l1 l2⟩⟩
  · obtain ⟨e1, v, rfl, hv⟩ := hl1 r h1 q1
    have hk := k v h1 _ _ q1 (by rw [putL_len2 p1 hle1]; omega) (q.put1 hle1)
    have e : pushR (Option.map (trV (rnI (newI io1 h.length (h1.length - hx.length)))) (some v)) [] = [v] := by
      show [trV _ v] ++ [] = [v]
      rw [hv]; rfl
    rw [e]; exact hk
theorem PL.c2 {v0 : Value} (hG : Good Mm) (hc : CallAt M pc 0 Mm n) (hcl : ∃ T N, vwCl[8]? = some (Mm.1.cls, T, N)) (hn : as.length = n) (hai : intsV as) (hsa : sumc (.ref 0 :: as) ≤ Mm.2.2.1) (h0 : sumc [v0] ≤ 8) (h0t : ∀ f, trV f v0 = v0) (q : LH h io1 io2 hx hm) (l1 : hx.length ≤ 64) (l2 : hm.length = 18) (ho8 : ∃ fs, lg hm 0 = some (.inr (8, fs))) (hx0 : P0 64 0 0 Mm (0, ent Mm.2.2.1 (.ref 0 :: as), [], hm) Qm) (hl2 : ∀ r h2, Qm r h2 → h2.length = 18 ∧ ∃ v, r = some v ∧ ∀ f, trV f v = v)
    (k : ∀ v h2 h' io2', Qm (some v) h2 → LH h' io1 io2' hx h2 → PL M b L xs mc ms (pc + 3, ls, [v, v0], h')) : PL M b L xs mc ms (pc, ls, as.reverse ++ [.ref 49, v0], h) := by
  obtain ⟨p1, p2, ap, cv, f1, f2, hle⟩ := id q
  have hr0 : rnI io2 0 = 49 := rnI_lt f2 sB_0
  have hst : as.reverse ++ [.ref 49, v0] = ((Value.ref 0 :: as).map (trV (rnI io2))).reverse ++ [v0] := by
    rw [List.map_cons, ints_tr _ hai, List.reverse_cons, List.append_assoc]
    show _ = as.reverse ++ ([Value.ref (rnI io2 0)] ++ [v0])
    rw [hr0]; rfl
  obtain ⟨T, N, hv⟩ := hcl
  obtain ⟨fs, ho⟩ := ho8
  refine PL.mono (PL.call (mc1 := 0) (ms1 := 0) (mc2 := mc) (ms2 := ms) (io := io2) (as := .ref 0 :: as) (rest := [v0]) (hc := hm) hG hc hst ⟨0, as, rfl, hn, .inl ⟨8, fs, T, N, ho, hv⟩⟩ h0 hsa p2.1 (by omega) p2.2.1 p2.2.2 hx0 (fun r h1 q1 => ?_) (fun r h1 q1 hle1 => ?_)) (by omega) (by omega)
  · obtain ⟨e1, _⟩ := hl2 r h1 q1
    exact ⟨by omega, by omega, .inl (by omega)⟩
  · obtain ⟨e1, v, rfl, hv⟩ := hl2 r h1 q1
    have hk := k v h1 _ _ q1 (q.put2 hle1)
    have e : pushR (Option.map (trV (rnI (newI io2 h.length (h1.length - hm.length)))) (some v)) [v0] = [v, v0] := by
      show [trV _ v] ++ [v0] = [v, v0]
      rw [hv]; rfl
    rw [e]; exact hk
end CC
section PR
variable {M Mx Mm : MI} {b L : Nat} {xs : Nat → Int32} {pc1 pc2 n pcE : Nat} {ls : List (Option Value)} {as : List Value} {h : PH} {io1 io2 : List Nat} {hx hm : PH} {mc ms : Nat}
theorem PL.pairI (hJ : JI Mx Mx.2.2.1 Mm Mm.2.2.1 as hx hm) (hGx : Good Mx) (hGm : Good Mm) (hcx : CallAt M pc1 0 Mx n) (hcm : CallAt M pc2 0 Mm n) (hclx : ∃ T N, vwCl[7]? = some (Mx.1.cls, T, N)) (hclm : ∃ T N, vwCl[8]? = some (Mm.1.cls, T, N)) (hn : as.length = n) (hai : intsV as) (hsx : sumc (.ref 0 :: as) ≤ Mx.2.2.1) (hsm : sumc (.ref 0 :: as) ≤ Mm.2.2.1) (q : LH h io1 io2 hx hm) (hI : INV hx hm) (hls : ∀ o ∈ ls, ∀ v, o = some v → wfV h.length v)
    (mid : ∀ (w : Int32) (h' : PH), h'.length ≤ sB → PL M b L xs mc ms (pc2, ls, as.reverse ++ [.ref 49, .int w], h') → PL M b L xs mc ms (pc1 + 3, ls, [.int w], h'))
    (fin : ∀ (w : Int32) (h' : PH), PL M b L xs mc ms (pcE, ls, [], h') → PL M b L xs mc ms (pc2 + 3, ls, [.int w, .int w], h'))
    (k : ∀ h' io1' io2' hx' hm', LH h' io1' io2' hx' hm' → INV hx' hm' → PL M b L xs mc ms (pcE, ls, [], h')) : PL M b L xs (3 + mc) (165 + ms) (pc1, ls, as.reverse ++ [.ref 0], h) := by
  obtain ⟨Qx, Qm, px, pm, g1, g2, hQ⟩ := hJ
  obtain ⟨l1, l2⟩ := hI.ln
  refine PL.c1 hGx hcx hclx hn hai hsx q hI hls px (fun r h1 q1 => ?_) (fun v h1 h' io1' q1 hlen q' => ?_)
  · obtain ⟨e1, w, rfl⟩ := g1 r h1 q1
    exact ⟨e1, _, rfl, fun _ => rfl⟩
  · obtain ⟨e1, w, ew⟩ := g1 _ h1 q1
    obtain rfl := Option.some.inj ew
    refine mid w h' (Nat.le_of_lt (Nat.lt_of_le_of_lt (q'.bd e1 l2) sB_82)) ?_
    refine PL.c2 hGm hcm hclm hn hai hsm (Nat.le_of_ble_eq_true rfl) (fun _ => rfl) q' e1 l2 hI.obj.2 pm (fun r h2 q2 => ?_) (fun v2 h2 h3 io2' q2 q3 => ?_)
    · obtain ⟨⟨w2, x1, x2⟩, _⟩ := hQ _ _ _ _ q1 q2
      exact ⟨g2 _ _ q2, _, x2, fun _ => rfl⟩
    · obtain ⟨⟨w2, x1, x2⟩, hI2⟩ := hQ _ _ _ _ q1 q2
      obtain rfl := Option.some.inj x2
      cases x1
      exact fin w h3 (k h3 _ _ _ _ q3 hI2)
theorem PL.pairL (hJ : JL Mx Mx.2.2.1 Mm Mm.2.2.1 as hx hm) (hGx : Good Mx) (hGm : Good Mm) (hcx : CallAt M pc1 0 Mx n) (hcm : CallAt M pc2 0 Mm n) (hclx : ∃ T N, vwCl[7]? = some (Mx.1.cls, T, N)) (hclm : ∃ T N, vwCl[8]? = some (Mm.1.cls, T, N)) (hn : as.length = n) (hai : intsV as) (hsx : sumc (.ref 0 :: as) ≤ Mx.2.2.1) (hsm : sumc (.ref 0 :: as) ≤ Mm.2.2.1) (q : LH h io1 io2 hx hm) (hI : INV hx hm) (hls : ∀ o ∈ ls, ∀ v, o = some v → wfV h.length v)
    (mid : ∀ (w : Int64) (h' : PH), h'.length ≤ sB → PL M b L xs mc ms (pc2, ls, as.reverse ++ [.ref 49, .long w], h') → PL M b L xs mc ms (pc1 + 3, ls, [.long w], h'))
    (fin : ∀ (w : Int64) (h' : PH), PL M b L xs mc ms (pcE, ls, [], h') → PL M b L xs mc ms (pc2 + 3, ls, [.long w, .long w], h'))
    (k : ∀ h' io1' io2' hx' hm', LH h' io1' io2' hx' hm' → INV hx' hm' → PL M b L xs mc ms (pcE, ls, [], h')) : PL M b L xs (3 + mc) (165 + ms) (pc1, ls, as.reverse ++ [.ref 0], h) := by
  obtain ⟨Qx, Qm, px, pm, g1, g2, hQ⟩ := hJ
  obtain ⟨l1, l2⟩ := hI.ln
  refine PL.c1 hGx hcx hclx hn hai hsx q hI hls px (fun r h1 q1 => ?_) (fun v h1 h' io1' q1 hlen q' => ?_)
  · obtain ⟨e1, w, rfl⟩ := g1 r h1 q1
    exact ⟨e1, _, rfl, fun _ => rfl⟩
  · obtain ⟨e1, w, ew⟩ := g1 _ h1 q1
    obtain rfl := Option.some.inj ew
    refine mid w h' (Nat.le_of_lt (Nat.lt_of_le_of_lt (q'.bd e1 l2) sB_82)) ?_
    refine PL.c2 hGm hcm hclm hn hai hsm (Nat.le_of_ble_eq_true rfl) (fun _ => rfl) q' e1 l2 hI.obj.2 pm (fun r h2 q2 => ?_) (fun v2 h2 h3 io2' q2 q3 => ?_)
    · obtain ⟨⟨w2, x1, x2⟩, _⟩ := hQ _ _ _ _ q1 q2
      exact ⟨g2 _ _ q2, _, x2, fun _ => rfl⟩
    · obtain ⟨⟨w2, x1, x2⟩, hI2⟩ := hQ _ _ _ _ q1 q2
      obtain rfl := Option.some.inj x2
      cases x1
      exact fin w h3 (k h3 _ _ _ _ q3 hI2)
end PR
def lsL (i : Int32) : List (Option Value) := [some (.ref (sB + 400)), some (.ref 0), some (.ref 49), some (.int i)]
theorem lsL_wf {h : PH} {io1 io2 : List Nat} {hx hm : PH} (q : LH h io1 io2 hx hm) (i : Int32) : ∀ o ∈ lsL i, ∀ v, o = some v → wfV h.length v := by
  intro o ho v hv
  have h0 : 0 < h.length := q.1.lt (List.mem_of_getElem? q.2.2.2.2.1)
  have h49 : 49 < h.length := q.2.1.lt (List.mem_of_getElem? q.2.2.2.2.2.1)
  unfold lsL at ho
  rcases List.mem_cons.mp ho with rfl | ho
  · cases hv; exact .inr sB4
  rcases List.mem_cons.mp ho with rfl | ho
  · cases hv; exact .inl h0
  rcases List.mem_cons.mp ho with rfl | ho
  · cases hv; exact .inl h49
  rcases List.mem_cons.mp ho with rfl | ho
  · cases hv; trivial
  exact absurd ho List.not_mem_nil
