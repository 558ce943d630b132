/-! ===== the two worlds in the law's heap ===== -/
def PT (io : List Nat) (hc h : PH) : Prop := io.length = hc.length ∧ va_nd io = true ∧ ∀ (j k : Nat), io[j]? = some k → ∃ e : va_E, hc[j]? = some e ∧ h[k]? = some (trE (rnI io) (fun k => k) e)
theorem PT.lt {io : List Nat} {hc h : PH} (p : PT io hc h) {k : Nat} (hk : k ∈ io) : k < h.length := by
  obtain ⟨j, hj⟩ := List.getElem?_of_mem hk
  obtain ⟨e, _, h2⟩ := p.2.2 j k hj
  exact (List.getElem?_eq_some_iff.mp h2).1
theorem va_nd_app : ∀ {a b : List Nat}, va_nd a = true → va_nd b = true → (∀ k, k ∈ a → k ∉ b) → va_nd (a ++ b) = true
  | [], b, _, h, _ => h
  | i :: a, b, h1, h2, h3 => by
    simp only [va_nd, Bool.and_eq_true, decide_eq_true_eq] at h1
    have ih := va_nd_app h1.2 h2 (fun k hk => h3 k (List.mem_cons_of_mem _ hk))
    show va_nd (i :: (a ++ b)) = true
    simp only [va_nd, Bool.and_eq_true, decide_eq_true_eq]
    refine ⟨fun z => ?_, ih⟩
    rcases List.mem_append.mp z with z | z
    · exact h1.1 z
    · exact h3 i List.mem_cons_self z
theorem va_nd_rng : ∀ m n, va_nd (List.range' n m) = true
  | 0, _ => rfl
  | m + 1, n => by
    rw [List.range'_succ]
    simp only [va_nd, Bool.and_eq_true, decide_eq_true_eq]
    exact ⟨fun z => by have := (List.mem_range'_1.mp z).1; omega, va_nd_rng m (n + 1)⟩
theorem PT.put {io : List Nat} {hc hc' h : PH} (p : PT io hc h) (hl : hc.length ≤ hc'.length) : PT (newI io h.length (hc'.length - hc.length)) hc' (putL h io (hc'.map (trE (rnI (newI io h.length (hc'.length - hc.length))) (fun k => k)))) := by
  have hlen : (newI io h.length (hc'.length - hc.length)).length = hc'.length := by
    unfold newI
    rw [List.length_append, List.length_range', p.1]; omega
  have hio : io.length ≤ hc'.length := by rw [p.1]; exact hl
  refine ⟨hlen, ?_, fun j k hj => ?_⟩
  · exact va_nd_app p.2.1 (va_nd_rng _ _) (fun k hk z => by have := p.lt hk; have := (List.mem_range'_1.mp z).1; omega)
  · have hjl : j < hc'.length := by rw [← hlen]; exact (List.getElem?_eq_some_iff.mp hj).1
    refine ⟨hc'[j], List.getElem?_eq_getElem hjl, ?_⟩
    have hlc : io.length ≤ (hc'.map (trE (rnI (newI io h.length (hc'.length - hc.length))) (fun k => k))).length := by rw [List.length_map]; exact hio
    by_cases hj1 : j < io.length
    · have hj2 : io[j]? = some k := by
        unfold newI at hj
        rw [List.getElem?_append_left hj1] at hj; exact hj
      rw [putL_in io h _ j k p.2.1 hj2 (p.lt (List.mem_of_getElem? hj2)) hlc, List.getElem?_map, List.getElem?_eq_getElem hjl]
      rfl
    · obtain ⟨t, rfl⟩ : ∃ t, j = io.length + t := ⟨j - io.length, by omega⟩
      have hk : k = h.length + t := by
        unfold newI at hj
        rw [List.getElem?_append_right (by omega), show io.length + t - io.length = t by omega, List.getElem?_range' (by rw [p.1] at hjl; omega)] at hj
        have := Option.some.inj hj
        omega
      rw [hk, putL_new io h _ t hlc, List.getElem?_map, List.getElem?_eq_getElem hjl]
      rfl
theorem PT.keep {io io2 : List Nat} {hm h cs : PH} (p : PT io2 hm h) (hap : ∀ k, k ∈ io2 → k ∉ io) (hl : io.length ≤ cs.length) : PT io2 hm (putL h io cs) := by
  refine ⟨p.1, p.2.1, fun j k hj => ?_⟩
  obtain ⟨e, h1, h2⟩ := p.2.2 j k hj
  have hm2 := List.mem_of_getElem? hj
  exact ⟨e, h1, by rw [putL_out io h cs k (p.lt hm2) (hap k hm2) hl]; exact h2⟩
/-- the law's heap: class cells at io1, the reference's at io2, nothing else -/
def LH (h : PH) (io1 io2 : List Nat) (hx hm : PH) : Prop := PT io1 hx h ∧ PT io2 hm h ∧ (∀ k, k ∈ io1 → k ∉ io2) ∧ (∀ k, k < h.length → k ∈ io1 ∨ k ∈ io2) ∧ io1[0]? = some 0 ∧ io2[0]? = some 49 ∧ h.length ≤ hx.length + hm.length
theorem putL_len2 {h : PH} {io : List Nat} {hc hc' : PH} (p : PT io hc h) (hl : hc.length ≤ hc'.length) (f : va_E → va_E) : (putL h io (hc'.map f)).length = h.length + (hc'.length - hc.length) := by
  rw [putL_len io h _ (by rw [List.length_map, p.1]; exact hl), List.length_map, p.1]
theorem mem_newI {io : List Nat} {n m k : Nat} : k ∈ newI io n m ↔ k ∈ io ∨ (n ≤ k ∧ k < n + m) := by
  unfold newI
  rw [List.mem_append, List.mem_range'_1]
theorem newI_0 {io : List Nat} {n m k : Nat} (h : io[0]? = some k) : (newI io n m)[0]? = some k := by
  unfold newI
  rw [List.getElem?_append_left (List.getElem?_eq_some_iff.mp h).1]; exact h
theorem LH.put1 {h : PH} {io1 io2 : List Nat} {hx hx' hm : PH} (q : LH h io1 io2 hx hm) (hl : hx.length ≤ hx'.length) : LH (putL h io1 (hx'.map (trE (rnI (newI io1 h.length (hx'.length - hx.length))) (fun k => k)))) (newI io1 h.length (hx'.length - hx.length)) io2 hx' hm := by
  obtain ⟨p1, p2, ap, cv, f1, f2, hle⟩ := q
  refine ⟨p1.put hl, p2.keep (fun k a b => ap k b a) (by rw [List.length_map, p1.1]; exact hl), fun k hk z => ?_, fun k hk => ?_, newI_0 f1, f2, ?_⟩
  · rcases mem_newI.mp hk with e | e
    · exact ap k e z
    · have := p2.lt z; omega
  · rw [putL_len2 p1 hl] at hk
    by_cases hk2 : k < h.length
    · rcases cv k hk2 with e | e
      · exact .inl (mem_newI.mpr (.inl e))
      · exact .inr e
    · exact .inl (mem_newI.mpr (.inr ⟨by omega, by omega⟩))
  · rw [putL_len2 p1 hl]; omega
theorem LH.put2 {h : PH} {io1 io2 : List Nat} {hx hm hm' : PH} (q : LH h io1 io2 hx hm) (hl : hm.length ≤ hm'.length) : LH (putL h io2 (hm'.map (trE (rnI (newI io2 h.length (hm'.length - hm.length))) (fun k => k)))) io1 (newI io2 h.length (hm'.length - hm.length)) hx hm' := by
  obtain ⟨p1, p2, ap, cv, f1, f2, hle⟩ := q
  refine ⟨p1.keep (fun k a b => ap k a b) (by rw [List.length_map, p2.1]; exact hl), p2.put hl, fun k hk z => ?_, fun k hk => ?_, f1, newI_0 f2, ?_⟩
  · rcases mem_newI.mp z with e | e
    · exact ap k hk e
    · have := p1.lt hk; omega
  · rw [putL_len2 p2 hl] at hk
    by_cases hk2 : k < h.length
    · rcases cv k hk2 with e | e
      · exact .inl e
      · exact .inr (mem_newI.mpr (.inl e))
    · exact .inr (mem_newI.mpr (.inr ⟨by omega, by omega⟩))
  · rw [putL_len2 p2 hl]; omega
theorem rnI_wf {io : List Nat} {hc h : PH} (p : PT io hc h) (hc9 : hc.length ≤ 999999) {r : Nat} (hr : r < hc.length ∨ sB ≤ r) : rnI io r < h.length ∨ sB ≤ rnI io r := by
  rcases hr with hr | hr
  · left
    have hj : r < io.length := by rw [p.1]; exact hr
    have e := List.getElem?_eq_getElem hj
    rw [rnI_lt e (Nat.lt_of_lt_of_le hr (Nat.le_trans hc9 (by unfold sB; decide)))]
    exact p.lt (List.mem_of_getElem? e)
  · right; rw [rnI_big io hr]; exact hr
theorem PT.wf {io : List Nat} {hc h : PH} (p : PT io hc h) (hc9 : hc.length ≤ 999999) {e : va_E} (he : wfE hc.length e) : wfE h.length (trE (rnI io) (fun k => k) e) := by
  rcases e with ⟨k0, m0, f | f | f | f | f⟩ | ⟨ci, fs⟩ <;> try trivial
  · intro j k hk
    dsimp only at hk
    cases hj : f j with
    | none => rw [hj] at hk; cases hk
    | some r => rw [hj] at hk; cases hk; exact rnI_wf p hc9 (he j r hj)
  · intro v hv
    obtain ⟨w, hw, rfl⟩ := List.mem_map.mp hv
    have := he w hw
    cases w <;> try trivial
    exact rnI_wf p hc9 this
theorem LH.wf {h : PH} {io1 io2 : List Nat} {hx hm : PH} (q : LH h io1 io2 hx hm) (w1 : ∀ e ∈ hx, wfE hx.length e) (w2 : ∀ e ∈ hm, wfE hm.length e) (l1 : hx.length ≤ 64) (l2 : hm.length = 18) : ∀ e ∈ h, wfE h.length e := fun e he => by
  obtain ⟨p1, p2, ap, cv, f1, f2, hle⟩ := q
  obtain ⟨k, hk⟩ := List.getElem?_of_mem he
  rcases cv k (List.getElem?_eq_some_iff.mp hk).1 with hm1 | hm1
  · obtain ⟨j, hj⟩ := List.getElem?_of_mem hm1
    obtain ⟨e0, g1, g2⟩ := p1.2.2 j k hj
    rw [hk] at g2
    rw [Option.some.inj g2]
    exact p1.wf (by omega) (w1 e0 (List.mem_of_getElem? g1))
  · obtain ⟨j, hj⟩ := List.getElem?_of_mem hm1
    obtain ⟨e0, g1, g2⟩ := p2.2.2 j k hj
    rw [hk] at g2
    rw [Option.some.inj g2]
    exact p2.wf (by omega) (w2 e0 (List.mem_of_getElem? g1))
