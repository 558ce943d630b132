/-! ===== from the law's entry to its loop ===== -/
def nX7 : va_E := pO 7 [.null, .null, .null, .null, .null, .null, .null, .null, .null, .null, .null, .null, .int 0, .int 0, .int 0, .int 0, .int 0, .null]
def nX8 : va_E := pO 8 [.int 0, .null, .null, .int 0, .int 0, .null, .int 0, .int 0, .null, .null, .null, .int 0, .int 0, .int 0, .int 0, .int 0, .int 0, .int 0, .int 0, .int 0, .int 0, .int 0, .int 0, .long 0, .int 0, .int 0, .int 0, .null, .null, .null, .null, .null, .null, .null, .int 0, .int 0, .int 0, .null, .null, .null, .null]
theorem PT.one7 : PT [0] [nX7] [nX7] := ⟨rfl, rfl, fun j k hj => by
  match j, hj with
  | 0, hj => cases hj; exact ⟨nX7, rfl, rfl⟩
  | j + 1, hj => cases hj⟩
theorem PT.one8 {h : PH} (hl : h.length = 49) : PT [49] [nX8] (h ++ [nX8]) := ⟨rfl, rfl, fun j k hj => by
  match j, hj with
  | 0, hj =>
    cases hj
    exact ⟨nX8, rfl, by rw [List.getElem?_append_right (by omega), hl]; rfl⟩
  | j + 1, hj => cases hj⟩
theorem PT.app {io : List Nat} {hc h : PH} (p : PT io hc h) (t : PH) : PT io hc (h ++ t) := ⟨p.1, p.2.1, fun j k hj => by
  obtain ⟨e, h1, h2⟩ := p.2.2 j k hj
  exact ⟨e, h1, by rw [List.getElem?_append_left (List.getElem?_eq_some_iff.mp h2).1]; exact h2⟩⟩
theorem lw_begin2 {b L : Nat} {xs : Nat → Int32} (hL : L ≤ 3072) {h1 hx : PH} {io1 : List Nat} (p1 : PT io1 hx h1) (hI : INV hx (hC GN0 gI0 0 AN0 aI0)) (hl : h1.length = 49) (cv : ∀ k, k < 49 → k ∈ io1) (f1 : io1[0]? = some 0) (hxl : hx.length = 49) : PL (mL_h L xs) b L xs (3 * 512 + 17 + 1) (165 * 512 + 10222 + 41) (7, [some (.ref (sB + 400)), none, none, none], [.ref 0], h1) := by
  obtain ⟨w1, w2⟩ := hI.wf
  have hs49 : h1.length < sB := by rw [hl]; exact Nat.lt_trans (by decide) sB_82
  have wf1 : ∀ e ∈ h1, wfE h1.length e := fun e he => by
    obtain ⟨k, hk⟩ := List.getElem?_of_mem he
    have hm1 := cv k (by have := (List.getElem?_eq_some_iff.mp hk).1; omega)
    obtain ⟨j, hj⟩ := List.getElem?_of_mem hm1
    obtain ⟨e0, g1, g2⟩ := p1.2.2 j k hj
    rw [hk] at g2
    rw [Option.some.inj g2]
    exact p1.wf (by omega) (w1 e0 (List.mem_of_getElem? g1))
  have wl : ∀ (n : Nat), 0 < n → ∀ o ∈ [some (Value.ref (sB + 400)), some (Value.ref 0), none, none], ∀ v, o = some v → wfV n v := fun n hn o ho v hv => by
    rcases List.mem_cons.mp ho with rfl | ho
    · cases hv; exact .inr sB4
    rcases List.mem_cons.mp ho with rfl | ho
    · cases hv; exact .inl hn
    rcases List.mem_cons.mp ho with rfl | ho
    · cases hv
    rcases List.mem_cons.mp ho with rfl | ho
    · cases hv
    exact absurd ho List.not_mem_nil
  refine PL.blk (mc := 3 * 512 + 17) (ms := 165 * 512 + 10222) (dc := 1) (ds := 41) GL_h 3 (ob := [wfP [some (.ref (sB + 400)), some (.ref 0), none, none] [] h1]) (cf' := (12, [some (.ref (sB + 400)), some (.ref 0), none, none], [.ref h1.length, .ref h1.length], h1 ++ [nX8])) rfl ⟨⟨hs49, wl _ (by omega), fun v hv => absurd hv List.not_mem_nil, wf1⟩, trivial⟩ ?_
  rw [hl]
  have q1 : PT io1 hx (h1 ++ [nX8]) := p1.app _
  have q2 : PT [49] [nX8] (h1 ++ [nX8]) := PT.one8 hl
  have hl2 : (h1 ++ [nX8]).length = 50 := by rw [List.length_append, hl]; rfl
  have wf2 : ∀ e ∈ h1 ++ [nX8], wfE (h1 ++ [nX8]).length e := fun e he => by
    rcases List.mem_append.mp he with he | he
    · obtain ⟨k, hk⟩ := List.getElem?_of_mem he
      have hm1 := cv k (by have := (List.getElem?_eq_some_iff.mp hk).1; omega)
      obtain ⟨j, hj⟩ := List.getElem?_of_mem hm1
      obtain ⟨e0, g1, g2⟩ := p1.2.2 j k hj
      rw [hk] at g2
      rw [Option.some.inj g2]
      exact q1.wf (by omega) (w1 e0 (List.mem_of_getElem? g1))
    · obtain rfl := List.mem_singleton.mp he
      exact wfe_of rfl
  rw [show 3 * 512 + 17 = 17 + 3 * 512 by omega, show 165 * 512 + 10222 = 10222 + 165 * 512 by omega]
  refine PL.call (kind := 2) (io := [49]) (as := [.ref 0]) (rest := [.ref 49]) (hc := [nX8]) GX11_init kL_law_12 rfl ⟨_, _, rfl, rfl⟩ (Nat.le_of_ble_eq_true rfl) (Nat.le_of_ble_eq_true rfl) q2.1 (by decide) q2.2.1 q2.2.2 (P0.mono init_n (by decide) (Nat.le_refl _) (Nat.le_refl _) (fun _ _ z => z)) (fun r hc' z => ?_) (fun r hc' z hle => ?_)
  · obtain ⟨rfl, rfl⟩ := z
    refine ⟨by rw [hl2]; decide, by decide, .inr ⟨by rw [hl2]; exact Nat.lt_trans (by decide) sB_82, wl _ (by omega), fun v hv => ?_, wf2⟩⟩
    obtain rfl := List.mem_singleton.mp hv
    exact .inl (show 49 < (h1 ++ [nX8]).length by rw [hl2]; decide)
  · obtain ⟨rfl, rfl⟩ := z
    have q3 := q2.put (hc' := hC GN0 gI0 0 AN0 aI0) (by decide)
    have q4 := q1.keep (io := [49]) (cs := (hC GN0 gI0 0 AN0 aI0).map (trE (rnI (newI [49] (h1 ++ [nX8]).length ((hC GN0 gI0 0 AN0 aI0).length - [nX8].length))) (fun k => k))) (fun k hk z => by have := p1.lt hk; have := List.mem_singleton.mp z; omega) (by rw [List.length_map]; decide)
    have hl3 := putL_len2 (hc' := hC GN0 gI0 0 AN0 aI0) q2 (by decide) (trE (rnI (newI [49] (h1 ++ [nX8]).length ((hC GN0 gI0 0 AN0 aI0).length - [nX8].length))) (fun k => k))
    have hm18 : (hC GN0 gI0 0 AN0 aI0).length - [nX8].length = 17 := rfl
    rw [hm18] at q3 q4 hl3
    rw [hl2] at q3 q4 hl3
    have q5 : LH _ io1 (newI [49] 50 17) hx (hC GN0 gI0 0 AN0 aI0) := ⟨q4, q3, fun k hk z => by
        have := p1.lt hk
        rcases mem_newI.mp z with z | z
        · have := List.mem_singleton.mp z; omega
        · omega, fun k hk => by
        rw [hl3] at hk
        by_cases h49 : k < 49
        · exact .inl (cv k h49)
        · refine .inr (mem_newI.mpr ?_)
          by_cases e : k = 49
          · exact .inl (by rw [e]; exact List.mem_singleton.mpr rfl)
          · exact .inr ⟨by omega, by omega⟩, f1, rfl, by rw [hl3, hxl, hC_len]; decide⟩
    have K := lw_loop (b := b) (xs := xs) hL 512 0 (by decide) (by omega) _ _ _ _ _ q5 hI
    have hl2' := hl2
    refine PL.bk GL_h 3 (cf' := (18, lsL (nI (6 * 0)), [], _)) rfl trivial ?_
    rw [hl2']
    exact K
theorem lw_begin {b L : Nat} {xs : Nat → Int32} (hL : L ≤ 3072) : PL (mL_h L xs) b L xs (3 * 512 + 17 + 1 + 48 + 1) (165 * 512 + 10222 + 41 + 2138 + 18) (0, [some (.ref (sB + 400)), none, none, none], [], []) := by
  refine PL.blk (mc := 3 * 512 + 17 + 1 + 48) (ms := 165 * 512 + 10222 + 41 + 2138) (dc := 1) (ds := 18) GL_h 2 (ob := [wfP [some (.ref (sB + 400)), none, none, none] [] []]) (cf' := (4, [some (.ref (sB + 400)), none, none, none], [.ref 0, .ref 0], [nX7])) rfl ⟨wfP_of rfl, trivial⟩ ?_
  rw [show 3 * 512 + 17 + 1 + 48 = 48 + (3 * 512 + 17 + 1) by omega, show 165 * 512 + 10222 + 41 + 2138 = 2138 + (165 * 512 + 10222 + 41) by omega]
  refine PL.call (kind := 2) (io := [0]) (as := [.ref 0]) (rest := [.ref 0]) (hc := [nX7]) GX10_init kL_law_4 rfl ⟨_, _, rfl, rfl⟩ (Nat.le_of_ble_eq_true rfl) (Nat.le_of_ble_eq_true rfl) PT.one7.1 (by decide) PT.one7.2.1 PT.one7.2.2 main_new (fun r hc' z => ?_) (fun r hc' z hle => ?_)
  · obtain ⟨v, z', b', f', e', hv, hok, rfl, rfl⟩ := z
    exact ⟨Nat.le_of_ble_eq_true rfl, Nat.le_of_ble_eq_true rfl, .inr (wfP_of rfl)⟩
  · obtain ⟨v, z', b', f', e', hv, hok, rfl, rfl⟩ := z
    have hI := INV.new (v := v) (z' := z') (b' := b') hok
    have p1 := PT.one7.put hle
    have hl3 := putL_len2 PT.one7 hle (trE (rnI (newI [0] [nX7].length ((hX gN (up2 zN0 5 v) zN0 uN zN0 z' b' cN zN0 0 1 (nwT 0 5 f' e')).length - [nX7].length))) (fun k => k))
    exact lw_begin2 hL p1 hI (by rw [hl3]; rfl) (fun k hk => mem_newI.mpr (by
      by_cases e : k = 0
      · exact .inl (by rw [e]; exact List.mem_singleton.mpr rfl)
      · exact .inr ⟨by show 1 ≤ k; omega, by show k < 1 + 48; omega⟩)) rfl rfl
