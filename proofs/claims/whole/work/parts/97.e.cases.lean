/-! ===== the cases and the loop (wip/tools/m_law3.py) ===== -/
theorem pl_tab {t1 t2 : List (Nat × POp)} {b L : Nat} {xs : Nat → Int32} {mc ms : Nat} {cf : CF} (h : PL (x, code, 4, ret, t1) b L xs mc ms cf) : PL (x, code, 4, ret, t2) b L xs mc ms cf := h
theorem PL.sw {M : MI} {b L : Nat} {xs : Nat → Int32} {mc ms : Nat} {v k : Int32} {t dd : Nat} {r : List (Int32 × Nat)} {ls : List (Option Value)} {st : List Value} {h : PH} (h1 : PL M b L xs mc ms (t, ls, st, h)) (h2 : PL M b L xs mc ms (swT v dd r, ls, st, h)) : PL M b L xs mc ms (swT v dd ((k, t) :: r), ls, st, h) := by
  unfold swT
  by_cases hc : v = k
  · rw [if_pos hc]; exact h1
  · rw [if_neg hc]; exact h2
theorem intsV_n : intsV [] := fun _ h => absurd h List.not_mem_nil
theorem intsV_c {i : Int32} {as : List Value} (h : intsV as) : intsV (.int i :: as) := fun v hv => by
  rcases List.mem_cons.mp hv with rfl | hv
  · exact ⟨i, rfl⟩
  · exact h v hv
theorem vpk {i L j : Nat} (hi : i + 6 ≤ L) (hL : L ≤ 3072) (hj : j < 6) : vp_in (nI i + nI j) L := by
  rw [nI_add]; exact nI_vp (by omega) (by omega)
theorem J_set {hx hm : PH} (hI : INV hx hm) (a0 a1 a2 : Int32) : JI mX10_set mX10_set.2.2.1 mX11_set mX11_set.2.2.1 [.int a0, .int a1, .int a2] hx hm := by
  obtain ⟨_, _, _, _, _, _, _, _, _, _, _, _, _, _, _, _, _, _, _, _, hT, rfl, rfl⟩ := hI
  exact j_set hT a0 a1 a2
theorem cs_0 {b L : Nat} {xs : Nat → Int32} {i : Nat} (hi : i + 6 ≤ L) (hL : L ≤ 3072) {h : PH} {io1 io2 : List Nat} {hx hm : PH} {mc ms : Nat} (q : LH h io1 io2 hx hm) (hI : INV hx hm) (K : ∀ h' io1' io2' hx' hm', LH h' io1' io2' hx' hm' → INV hx' hm' → PL (mL_h L xs) b L xs mc ms (951, lsL (nI i), [], h')) : PL (mL_h L xs) b L xs (3 + mc) (165 + ms) (152, lsL (nI i), [], h) := by
  have hh : h.length ≤ sB := Nat.le_of_lt (q.sb hI)
  have v1 : vp_in (nI i + 1) L := vpk (j := 1) hi hL (by decide)
  have v2 : vp_in (nI i + 2) L := vpk (j := 2) hi hL (by decide)
  have v3 : vp_in (nI i + 3) L := vpk (j := 3) hi hL (by decide)
  refine pl_tab (t1 := tL_0 L xs) (t2 := tL_h L xs) ?_
  refine PL.bk GL_0 6 (cf' := (158, lsL (nI i), [.int (xs (nI i + 1).toNatClampNeg), .ref 0], h)) rfl ⟨hh, v1, trivial⟩ ?_
  refine PL.bk GL_0 5 (cf' := (163, lsL (nI i), [.int (xs (nI i + 2).toNatClampNeg), .int (xs (nI i + 1).toNatClampNeg), .ref 0], h)) rfl ⟨hh, v2, trivial⟩ ?_
  refine PL.bk GL_0 5 (cf' := (168, lsL (nI i), [.int (xs (nI i + 3).toNatClampNeg), .int (xs (nI i + 2).toNatClampNeg), .int (xs (nI i + 1).toNatClampNeg), .ref 0], h)) rfl ⟨hh, v3, trivial⟩ ?_
  refine PL.pairI (as := [.int (xs (nI i + 1).toNatClampNeg), .int (xs (nI i + 2).toNatClampNeg), .int (xs (nI i + 3).toNatClampNeg)]) (pc1 := 168) (pc2 := 187) (pcE := 951) (J_set hI _ _ _) GX10_set GX11_set kL_law_168 kL_law_187 ⟨_, _, rfl⟩ ⟨_, _, rfl⟩ rfl (intsV_c (intsV_c (intsV_c intsV_n))) (Nat.le_of_ble_eq_true rfl) (Nat.le_of_ble_eq_true rfl) q hI (lsL_wf q _) (fun w h' hh' k => ?_) (fun w h' k => ?_) (fun h' a1 a2 a3 a4 r1 r2 => pl_tab (K h' a1 a2 a3 a4 r1 r2))
  · refine PL.bk GL_0 6 (cf' := (177, lsL (nI i), [.int (xs (nI i + 1).toNatClampNeg), .ref 49, .int w], h')) rfl ⟨hh', v1, trivial⟩ ?_
    refine PL.bk GL_0 5 (cf' := (182, lsL (nI i), [.int (xs (nI i + 2).toNatClampNeg), .int (xs (nI i + 1).toNatClampNeg), .ref 49, .int w], h')) rfl ⟨hh', v2, trivial⟩ ?_
    refine PL.bk GL_0 5 (cf' := (187, lsL (nI i), [.int (xs (nI i + 3).toNatClampNeg), .int (xs (nI i + 2).toNatClampNeg), .int (xs (nI i + 1).toNatClampNeg), .ref 49, .int w], h')) rfl ⟨hh', v3, trivial⟩ ?_
    exact k
  · exact PL.bk GL_0 1 (cf' := (if w = w then 951 else 193, lsL (nI i), [], h')) rfl trivial (PL.if (fun _ => k) (fun z => absurd rfl z))
theorem J_witness {hx hm : PH} (hI : INV hx hm) (a0 a1 a2 : Int32) : JI mX10_witness mX10_witness.2.2.1 mX11_witness mX11_witness.2.2.1 [.int a0, .int a1, .int a2] hx hm := by
  obtain ⟨_, _, _, _, _, _, _, _, _, _, _, _, _, _, _, _, _, _, _, _, hT, rfl, rfl⟩ := hI
  exact j_witness hT a0 a1 a2
theorem cs_1 {b L : Nat} {xs : Nat → Int32} {i : Nat} (hi : i + 6 ≤ L) (hL : L ≤ 3072) {h : PH} {io1 io2 : List Nat} {hx hm : PH} {mc ms : Nat} (q : LH h io1 io2 hx hm) (hI : INV hx hm) (K : ∀ h' io1' io2' hx' hm', LH h' io1' io2' hx' hm' → INV hx' hm' → PL (mL_h L xs) b L xs mc ms (951, lsL (nI i), [], h')) : PL (mL_h L xs) b L xs (3 + mc) (165 + ms) (195, lsL (nI i), [], h) := by
  have hh : h.length ≤ sB := Nat.le_of_lt (q.sb hI)
  have v1 : vp_in (nI i + 1) L := vpk (j := 1) hi hL (by decide)
  have v2 : vp_in (nI i + 2) L := vpk (j := 2) hi hL (by decide)
  have v3 : vp_in (nI i + 3) L := vpk (j := 3) hi hL (by decide)
  refine pl_tab (t1 := tL_1 L xs) (t2 := tL_h L xs) ?_
  refine PL.bk GL_1 6 (cf' := (201, lsL (nI i), [.int (xs (nI i + 1).toNatClampNeg), .ref 0], h)) rfl ⟨hh, v1, trivial⟩ ?_
  refine PL.bk GL_1 5 (cf' := (206, lsL (nI i), [.int (xs (nI i + 2).toNatClampNeg), .int (xs (nI i + 1).toNatClampNeg), .ref 0], h)) rfl ⟨hh, v2, trivial⟩ ?_
  refine PL.bk GL_1 5 (cf' := (211, lsL (nI i), [.int (xs (nI i + 3).toNatClampNeg), .int (xs (nI i + 2).toNatClampNeg), .int (xs (nI i + 1).toNatClampNeg), .ref 0], h)) rfl ⟨hh, v3, trivial⟩ ?_
  refine PL.pairI (as := [.int (xs (nI i + 1).toNatClampNeg), .int (xs (nI i + 2).toNatClampNeg), .int (xs (nI i + 3).toNatClampNeg)]) (pc1 := 211) (pc2 := 230) (pcE := 951) (J_witness hI _ _ _) GX10_witness GX11_witness kL_law_211 kL_law_230 ⟨_, _, rfl⟩ ⟨_, _, rfl⟩ rfl (intsV_c (intsV_c (intsV_c intsV_n))) (Nat.le_of_ble_eq_true rfl) (Nat.le_of_ble_eq_true rfl) q hI (lsL_wf q _) (fun w h' hh' k => ?_) (fun w h' k => ?_) (fun h' a1 a2 a3 a4 r1 r2 => pl_tab (K h' a1 a2 a3 a4 r1 r2))
  · refine PL.bk GL_1 6 (cf' := (220, lsL (nI i), [.int (xs (nI i + 1).toNatClampNeg), .ref 49, .int w], h')) rfl ⟨hh', v1, trivial⟩ ?_
    refine PL.bk GL_1 5 (cf' := (225, lsL (nI i), [.int (xs (nI i + 2).toNatClampNeg), .int (xs (nI i + 1).toNatClampNeg), .ref 49, .int w], h')) rfl ⟨hh', v2, trivial⟩ ?_
    refine PL.bk GL_1 5 (cf' := (230, lsL (nI i), [.int (xs (nI i + 3).toNatClampNeg), .int (xs (nI i + 2).toNatClampNeg), .int (xs (nI i + 1).toNatClampNeg), .ref 49, .int w], h')) rfl ⟨hh', v3, trivial⟩ ?_
    exact k
  · exact PL.bk GL_1 1 (cf' := (if w = w then 951 else 236, lsL (nI i), [], h')) rfl trivial (PL.if (fun _ => k) (fun z => absurd rfl z))
theorem J_told {hx hm : PH} (hI : INV hx hm) (a0 a1 : Int32) : JI mX10_told mX10_told.2.2.1 mX11_told mX11_told.2.2.1 [.int a0, .int a1] hx hm := by
  obtain ⟨_, _, _, _, _, _, _, _, _, _, _, _, _, _, _, _, _, _, _, _, hT, rfl, rfl⟩ := hI
  exact j_told hT a0 a1
theorem cs_2 {b L : Nat} {xs : Nat → Int32} {i : Nat} (hi : i + 6 ≤ L) (hL : L ≤ 3072) {h : PH} {io1 io2 : List Nat} {hx hm : PH} {mc ms : Nat} (q : LH h io1 io2 hx hm) (hI : INV hx hm) (K : ∀ h' io1' io2' hx' hm', LH h' io1' io2' hx' hm' → INV hx' hm' → PL (mL_h L xs) b L xs mc ms (951, lsL (nI i), [], h')) : PL (mL_h L xs) b L xs (3 + mc) (165 + ms) (238, lsL (nI i), [], h) := by
  have hh : h.length ≤ sB := Nat.le_of_lt (q.sb hI)
  have v1 : vp_in (nI i + 1) L := vpk (j := 1) hi hL (by decide)
  have v2 : vp_in (nI i + 2) L := vpk (j := 2) hi hL (by decide)
  refine pl_tab (t1 := tL_2 L xs) (t2 := tL_h L xs) ?_
  refine PL.bk GL_2 6 (cf' := (244, lsL (nI i), [.int (xs (nI i + 1).toNatClampNeg), .ref 0], h)) rfl ⟨hh, v1, trivial⟩ ?_
  refine PL.bk GL_2 5 (cf' := (249, lsL (nI i), [.int (xs (nI i + 2).toNatClampNeg), .int (xs (nI i + 1).toNatClampNeg), .ref 0], h)) rfl ⟨hh, v2, trivial⟩ ?_
  refine PL.pairI (as := [.int (xs (nI i + 1).toNatClampNeg), .int (xs (nI i + 2).toNatClampNeg)]) (pc1 := 249) (pc2 := 263) (pcE := 951) (J_told hI _ _) GX10_told GX11_told kL_law_249 kL_law_263 ⟨_, _, rfl⟩ ⟨_, _, rfl⟩ rfl (intsV_c (intsV_c intsV_n)) (Nat.le_of_ble_eq_true rfl) (Nat.le_of_ble_eq_true rfl) q hI (lsL_wf q _) (fun w h' hh' k => ?_) (fun w h' k => ?_) (fun h' a1 a2 a3 a4 r1 r2 => pl_tab (K h' a1 a2 a3 a4 r1 r2))
  · refine PL.bk GL_2 6 (cf' := (258, lsL (nI i), [.int (xs (nI i + 1).toNatClampNeg), .ref 49, .int w], h')) rfl ⟨hh', v1, trivial⟩ ?_
    refine PL.bk GL_2 5 (cf' := (263, lsL (nI i), [.int (xs (nI i + 2).toNatClampNeg), .int (xs (nI i + 1).toNatClampNeg), .ref 49, .int w], h')) rfl ⟨hh', v2, trivial⟩ ?_
    exact k
  · exact PL.bk GL_2 1 (cf' := (if w = w then 951 else 269, lsL (nI i), [], h')) rfl trivial (PL.if (fun _ => k) (fun z => absurd rfl z))
theorem J_feed {hx hm : PH} (hI : INV hx hm) (a0 : Int32) : JI mX10_feed mX10_feed.2.2.1 mX11_feed mX11_feed.2.2.1 [.int a0] hx hm := by
  obtain ⟨_, _, _, _, _, _, _, _, _, _, _, _, _, _, _, _, _, _, _, _, hT, rfl, rfl⟩ := hI
  exact j_feed hT a0
theorem cs_3 {b L : Nat} {xs : Nat → Int32} {i : Nat} (hi : i + 6 ≤ L) (hL : L ≤ 3072) {h : PH} {io1 io2 : List Nat} {hx hm : PH} {mc ms : Nat} (q : LH h io1 io2 hx hm) (hI : INV hx hm) (K : ∀ h' io1' io2' hx' hm', LH h' io1' io2' hx' hm' → INV hx' hm' → PL (mL_h L xs) b L xs mc ms (951, lsL (nI i), [], h')) : PL (mL_h L xs) b L xs (3 + mc) (165 + ms) (271, lsL (nI i), [], h) := by
  have hh : h.length ≤ sB := Nat.le_of_lt (q.sb hI)
  have v1 : vp_in (nI i + 1) L := vpk (j := 1) hi hL (by decide)
  refine pl_tab (t1 := tL_3 L xs) (t2 := tL_h L xs) ?_
  refine PL.bk GL_3 6 (cf' := (277, lsL (nI i), [.int (xs (nI i + 1).toNatClampNeg), .ref 0], h)) rfl ⟨hh, v1, trivial⟩ ?_
  refine PL.pairI (as := [.int (xs (nI i + 1).toNatClampNeg)]) (pc1 := 277) (pc2 := 286) (pcE := 951) (J_feed hI _) GX10_feed GX11_feed kL_law_277 kL_law_286 ⟨_, _, rfl⟩ ⟨_, _, rfl⟩ rfl (intsV_c intsV_n) (Nat.le_of_ble_eq_true rfl) (Nat.le_of_ble_eq_true rfl) q hI (lsL_wf q _) (fun w h' hh' k => ?_) (fun w h' k => ?_) (fun h' a1 a2 a3 a4 r1 r2 => pl_tab (K h' a1 a2 a3 a4 r1 r2))
  · refine PL.bk GL_3 6 (cf' := (286, lsL (nI i), [.int (xs (nI i + 1).toNatClampNeg), .ref 49, .int w], h')) rfl ⟨hh', v1, trivial⟩ ?_
    exact k
  · exact PL.bk GL_3 1 (cf' := (if w = w then 951 else 292, lsL (nI i), [], h')) rfl trivial (PL.if (fun _ => k) (fun z => absurd rfl z))
theorem J_text {hx hm : PH} (hI : INV hx hm)  : JI mX10_text mX10_text.2.2.1 mX11_text mX11_text.2.2.1 [] hx hm := by
  obtain ⟨_, _, _, _, _, _, _, _, _, _, _, _, _, _, _, _, _, _, _, _, hT, rfl, rfl⟩ := hI
  exact j_text hT 
theorem cs_4 {b L : Nat} {xs : Nat → Int32} {i : Nat} (hi : i + 6 ≤ L) (hL : L ≤ 3072) {h : PH} {io1 io2 : List Nat} {hx hm : PH} {mc ms : Nat} (q : LH h io1 io2 hx hm) (hI : INV hx hm) (K : ∀ h' io1' io2' hx' hm', LH h' io1' io2' hx' hm' → INV hx' hm' → PL (mL_h L xs) b L xs mc ms (951, lsL (nI i), [], h')) : PL (mL_h L xs) b L xs (3 + mc) (165 + ms) (294, lsL (nI i), [], h) := by
  have hh : h.length ≤ sB := Nat.le_of_lt (q.sb hI)
  refine pl_tab (t1 := tL_4 L xs) (t2 := tL_h L xs) ?_
  refine PL.bk GL_4 1 (cf' := (295, lsL (nI i), [.ref 0], h)) rfl trivial ?_
  refine PL.pairI (as := []) (pc1 := 295) (pc2 := 299) (pcE := 951) (J_text hI ) GX10_text GX11_text kL_law_295 kL_law_299 ⟨_, _, rfl⟩ ⟨_, _, rfl⟩ rfl intsV_n (Nat.le_of_ble_eq_true rfl) (Nat.le_of_ble_eq_true rfl) q hI (lsL_wf q _) (fun w h' hh' k => ?_) (fun w h' k => ?_) (fun h' a1 a2 a3 a4 r1 r2 => pl_tab (K h' a1 a2 a3 a4 r1 r2))
  · refine PL.bk GL_4 1 (cf' := (299, lsL (nI i), [.ref 49, .int w], h')) rfl trivial ?_
    exact k
  · exact PL.bk GL_4 1 (cf' := (if w = w then 951 else 305, lsL (nI i), [], h')) rfl trivial (PL.if (fun _ => k) (fun z => absurd rfl z))
theorem J_force {hx hm : PH} (hI : INV hx hm) (a0 : Int32) : JI mX10_force mX10_force.2.2.1 mX11_force mX11_force.2.2.1 [.int a0] hx hm := by
  obtain ⟨_, _, _, _, _, _, _, _, _, _, _, _, _, _, _, _, _, _, _, _, hT, rfl, rfl⟩ := hI
  exact j_force hT a0
theorem cs_5 {b L : Nat} {xs : Nat → Int32} {i : Nat} (hi : i + 6 ≤ L) (hL : L ≤ 3072) {h : PH} {io1 io2 : List Nat} {hx hm : PH} {mc ms : Nat} (q : LH h io1 io2 hx hm) (hI : INV hx hm) (K : ∀ h' io1' io2' hx' hm', LH h' io1' io2' hx' hm' → INV hx' hm' → PL (mL_h L xs) b L xs mc ms (951, lsL (nI i), [], h')) : PL (mL_h L xs) b L xs (3 + mc) (165 + ms) (307, lsL (nI i), [], h) := by
  have hh : h.length ≤ sB := Nat.le_of_lt (q.sb hI)
  have v1 : vp_in (nI i + 1) L := vpk (j := 1) hi hL (by decide)
  refine pl_tab (t1 := tL_5 L xs) (t2 := tL_h L xs) ?_
  refine PL.bk GL_5 6 (cf' := (313, lsL (nI i), [.int (xs (nI i + 1).toNatClampNeg), .ref 0], h)) rfl ⟨hh, v1, trivial⟩ ?_
  refine PL.pairI (as := [.int (xs (nI i + 1).toNatClampNeg)]) (pc1 := 313) (pc2 := 322) (pcE := 951) (J_force hI _) GX10_force GX11_force kL_law_313 kL_law_322 ⟨_, _, rfl⟩ ⟨_, _, rfl⟩ rfl (intsV_c intsV_n) (Nat.le_of_ble_eq_true rfl) (Nat.le_of_ble_eq_true rfl) q hI (lsL_wf q _) (fun w h' hh' k => ?_) (fun w h' k => ?_) (fun h' a1 a2 a3 a4 r1 r2 => pl_tab (K h' a1 a2 a3 a4 r1 r2))
  · refine PL.bk GL_5 6 (cf' := (322, lsL (nI i), [.int (xs (nI i + 1).toNatClampNeg), .ref 49, .int w], h')) rfl ⟨hh', v1, trivial⟩ ?_
    exact k
  · exact PL.bk GL_5 1 (cf' := (if w = w then 951 else 328, lsL (nI i), [], h')) rfl trivial (PL.if (fun _ => k) (fun z => absurd rfl z))
theorem J_all {hx hm : PH} (hI : INV hx hm) (a0 : Int32) : JI mX10_all mX10_all.2.2.1 mX11_all mX11_all.2.2.1 [.int a0] hx hm := by
  obtain ⟨_, _, _, _, _, _, _, _, _, _, _, _, _, _, _, _, _, _, _, _, hT, rfl, rfl⟩ := hI
  exact j_all hT a0
theorem cs_6 {b L : Nat} {xs : Nat → Int32} {i : Nat} (hi : i + 6 ≤ L) (hL : L ≤ 3072) {h : PH} {io1 io2 : List Nat} {hx hm : PH} {mc ms : Nat} (q : LH h io1 io2 hx hm) (hI : INV hx hm) (K : ∀ h' io1' io2' hx' hm', LH h' io1' io2' hx' hm' → INV hx' hm' → PL (mL_h L xs) b L xs mc ms (951, lsL (nI i), [], h')) : PL (mL_h L xs) b L xs (3 + mc) (165 + ms) (330, lsL (nI i), [], h) := by
  have hh : h.length ≤ sB := Nat.le_of_lt (q.sb hI)
  have v1 : vp_in (nI i + 1) L := vpk (j := 1) hi hL (by decide)
  refine pl_tab (t1 := tL_6 L xs) (t2 := tL_h L xs) ?_
  refine PL.bk GL_6 6 (cf' := (336, lsL (nI i), [.int (xs (nI i + 1).toNatClampNeg), .ref 0], h)) rfl ⟨hh, v1, trivial⟩ ?_
  refine PL.pairI (as := [.int (xs (nI i + 1).toNatClampNeg)]) (pc1 := 336) (pc2 := 345) (pcE := 951) (J_all hI _) GX10_all GX11_all kL_law_336 kL_law_345 ⟨_, _, rfl⟩ ⟨_, _, rfl⟩ rfl (intsV_c intsV_n) (Nat.le_of_ble_eq_true rfl) (Nat.le_of_ble_eq_true rfl) q hI (lsL_wf q _) (fun w h' hh' k => ?_) (fun w h' k => ?_) (fun h' a1 a2 a3 a4 r1 r2 => pl_tab (K h' a1 a2 a3 a4 r1 r2))
  · refine PL.bk GL_6 6 (cf' := (345, lsL (nI i), [.int (xs (nI i + 1).toNatClampNeg), .ref 49, .int w], h')) rfl ⟨hh', v1, trivial⟩ ?_
    exact k
  · exact PL.bk GL_6 1 (cf' := (if w = w then 951 else 351, lsL (nI i), [], h')) rfl trivial (PL.if (fun _ => k) (fun z => absurd rfl z))
theorem J_canBe {hx hm : PH} (hI : INV hx hm) (a0 : Int32) : JI mX10_canBe mX10_canBe.2.2.1 mX11_canBe mX11_canBe.2.2.1 [.int a0] hx hm := by
  obtain ⟨_, _, _, _, _, _, _, _, _, _, _, _, _, _, _, _, _, _, _, _, hT, rfl, rfl⟩ := hI
  exact j_canBe hT a0
theorem cs_7 {b L : Nat} {xs : Nat → Int32} {i : Nat} (hi : i + 6 ≤ L) (hL : L ≤ 3072) {h : PH} {io1 io2 : List Nat} {hx hm : PH} {mc ms : Nat} (q : LH h io1 io2 hx hm) (hI : INV hx hm) (K : ∀ h' io1' io2' hx' hm', LH h' io1' io2' hx' hm' → INV hx' hm' → PL (mL_h L xs) b L xs mc ms (951, lsL (nI i), [], h')) : PL (mL_h L xs) b L xs (3 + mc) (165 + ms) (353, lsL (nI i), [], h) := by
  have hh : h.length ≤ sB := Nat.le_of_lt (q.sb hI)
  have v1 : vp_in (nI i + 1) L := vpk (j := 1) hi hL (by decide)
  refine pl_tab (t1 := tL_7 L xs) (t2 := tL_h L xs) ?_
  refine PL.bk GL_7 6 (cf' := (359, lsL (nI i), [.int (xs (nI i + 1).toNatClampNeg), .ref 0], h)) rfl ⟨hh, v1, trivial⟩ ?_
  refine PL.pairI (as := [.int (xs (nI i + 1).toNatClampNeg)]) (pc1 := 359) (pc2 := 368) (pcE := 951) (J_canBe hI _) GX10_canBe GX11_canBe kL_law_359 kL_law_368 ⟨_, _, rfl⟩ ⟨_, _, rfl⟩ rfl (intsV_c intsV_n) (Nat.le_of_ble_eq_true rfl) (Nat.le_of_ble_eq_true rfl) q hI (lsL_wf q _) (fun w h' hh' k => ?_) (fun w h' k => ?_) (fun h' a1 a2 a3 a4 r1 r2 => pl_tab (K h' a1 a2 a3 a4 r1 r2))
  · refine PL.bk GL_7 6 (cf' := (368, lsL (nI i), [.int (xs (nI i + 1).toNatClampNeg), .ref 49, .int w], h')) rfl ⟨hh', v1, trivial⟩ ?_
    exact k
  · exact PL.bk GL_7 1 (cf' := (if w = w then 951 else 374, lsL (nI i), [], h')) rfl trivial (PL.if (fun _ => k) (fun z => absurd rfl z))
theorem J_fit {hx hm : PH} (hI : INV hx hm) (a0 : Int32) : JI mX10_fit mX10_fit.2.2.1 mX11_fit mX11_fit.2.2.1 [.int a0] hx hm := by
  obtain ⟨_, _, _, _, _, _, _, _, _, _, _, _, _, _, _, _, _, _, _, _, hT, rfl, rfl⟩ := hI
  exact j_fit hT a0
theorem cs_8 {b L : Nat} {xs : Nat → Int32} {i : Nat} (hi : i + 6 ≤ L) (hL : L ≤ 3072) {h : PH} {io1 io2 : List Nat} {hx hm : PH} {mc ms : Nat} (q : LH h io1 io2 hx hm) (hI : INV hx hm) (K : ∀ h' io1' io2' hx' hm', LH h' io1' io2' hx' hm' → INV hx' hm' → PL (mL_h L xs) b L xs mc ms (951, lsL (nI i), [], h')) : PL (mL_h L xs) b L xs (3 + mc) (165 + ms) (376, lsL (nI i), [], h) := by
  have hh : h.length ≤ sB := Nat.le_of_lt (q.sb hI)
  have v1 : vp_in (nI i + 1) L := vpk (j := 1) hi hL (by decide)
  refine pl_tab (t1 := tL_8 L xs) (t2 := tL_h L xs) ?_
  refine PL.bk GL_8 6 (cf' := (382, lsL (nI i), [.int (xs (nI i + 1).toNatClampNeg), .ref 0], h)) rfl ⟨hh, v1, trivial⟩ ?_
  refine PL.pairI (as := [.int (xs (nI i + 1).toNatClampNeg)]) (pc1 := 382) (pc2 := 391) (pcE := 951) (J_fit hI _) GX10_fit GX11_fit kL_law_382 kL_law_391 ⟨_, _, rfl⟩ ⟨_, _, rfl⟩ rfl (intsV_c intsV_n) (Nat.le_of_ble_eq_true rfl) (Nat.le_of_ble_eq_true rfl) q hI (lsL_wf q _) (fun w h' hh' k => ?_) (fun w h' k => ?_) (fun h' a1 a2 a3 a4 r1 r2 => pl_tab (K h' a1 a2 a3 a4 r1 r2))
  · refine PL.bk GL_8 6 (cf' := (391, lsL (nI i), [.int (xs (nI i + 1).toNatClampNeg), .ref 49, .int w], h')) rfl ⟨hh', v1, trivial⟩ ?_
    exact k
  · exact PL.bk GL_8 1 (cf' := (if w = w then 951 else 397, lsL (nI i), [], h')) rfl trivial (PL.if (fun _ => k) (fun z => absurd rfl z))
theorem J_life {hx hm : PH} (hI : INV hx hm) (a0 a1 : Int32) : JI mX10_life mX10_life.2.2.1 mX11_life mX11_life.2.2.1 [.int a0, .int a1] hx hm := by
  obtain ⟨_, _, _, _, _, _, _, _, _, _, _, _, _, _, _, _, _, _, _, _, hT, rfl, rfl⟩ := hI
  exact j_life hT a0 a1
theorem cs_9 {b L : Nat} {xs : Nat → Int32} {i : Nat} (hi : i + 6 ≤ L) (hL : L ≤ 3072) {h : PH} {io1 io2 : List Nat} {hx hm : PH} {mc ms : Nat} (q : LH h io1 io2 hx hm) (hI : INV hx hm) (K : ∀ h' io1' io2' hx' hm', LH h' io1' io2' hx' hm' → INV hx' hm' → PL (mL_h L xs) b L xs mc ms (951, lsL (nI i), [], h')) : PL (mL_h L xs) b L xs (3 + mc) (165 + ms) (399, lsL (nI i), [], h) := by
  have hh : h.length ≤ sB := Nat.le_of_lt (q.sb hI)
  have v1 : vp_in (nI i + 1) L := vpk (j := 1) hi hL (by decide)
  have v2 : vp_in (nI i + 2) L := vpk (j := 2) hi hL (by decide)
  refine pl_tab (t1 := tL_9 L xs) (t2 := tL_h L xs) ?_
  refine PL.bk GL_9 6 (cf' := (405, lsL (nI i), [.int (xs (nI i + 1).toNatClampNeg), .ref 0], h)) rfl ⟨hh, v1, trivial⟩ ?_
  refine PL.bk GL_9 5 (cf' := (410, lsL (nI i), [.int (xs (nI i + 2).toNatClampNeg), .int (xs (nI i + 1).toNatClampNeg), .ref 0], h)) rfl ⟨hh, v2, trivial⟩ ?_
  refine PL.pairI (as := [.int (xs (nI i + 1).toNatClampNeg), .int (xs (nI i + 2).toNatClampNeg)]) (pc1 := 410) (pc2 := 424) (pcE := 951) (J_life hI _ _) GX10_life GX11_life kL_law_410 kL_law_424 ⟨_, _, rfl⟩ ⟨_, _, rfl⟩ rfl (intsV_c (intsV_c intsV_n)) (Nat.le_of_ble_eq_true rfl) (Nat.le_of_ble_eq_true rfl) q hI (lsL_wf q _) (fun w h' hh' k => ?_) (fun w h' k => ?_) (fun h' a1 a2 a3 a4 r1 r2 => pl_tab (K h' a1 a2 a3 a4 r1 r2))
  · refine PL.bk GL_9 6 (cf' := (419, lsL (nI i), [.int (xs (nI i + 1).toNatClampNeg), .ref 49, .int w], h')) rfl ⟨hh', v1, trivial⟩ ?_
    refine PL.bk GL_9 5 (cf' := (424, lsL (nI i), [.int (xs (nI i + 2).toNatClampNeg), .int (xs (nI i + 1).toNatClampNeg), .ref 49, .int w], h')) rfl ⟨hh', v2, trivial⟩ ?_
    exact k
  · exact PL.bk GL_9 1 (cf' := (if w = w then 951 else 430, lsL (nI i), [], h')) rfl trivial (PL.if (fun _ => k) (fun z => absurd rfl z))
theorem J_next {hx hm : PH} (hI : INV hx hm) (a0 : Int32) : JI mX10_next mX10_next.2.2.1 mX11_next mX11_next.2.2.1 [.int a0] hx hm := by
  obtain ⟨_, _, _, _, _, _, _, _, _, _, _, _, _, _, _, _, _, _, _, _, hT, rfl, rfl⟩ := hI
  exact j_next hT a0
theorem cs_10 {b L : Nat} {xs : Nat → Int32} {i : Nat} (hi : i + 6 ≤ L) (hL : L ≤ 3072) {h : PH} {io1 io2 : List Nat} {hx hm : PH} {mc ms : Nat} (q : LH h io1 io2 hx hm) (hI : INV hx hm) (K : ∀ h' io1' io2' hx' hm', LH h' io1' io2' hx' hm' → INV hx' hm' → PL (mL_h L xs) b L xs mc ms (951, lsL (nI i), [], h')) : PL (mL_h L xs) b L xs (3 + mc) (165 + ms) (432, lsL (nI i), [], h) := by
  have hh : h.length ≤ sB := Nat.le_of_lt (q.sb hI)
  have v1 : vp_in (nI i + 1) L := vpk (j := 1) hi hL (by decide)
  refine pl_tab (t1 := tL_10 L xs) (t2 := tL_h L xs) ?_
  refine PL.bk GL_10 6 (cf' := (438, lsL (nI i), [.int (xs (nI i + 1).toNatClampNeg), .ref 0], h)) rfl ⟨hh, v1, trivial⟩ ?_
  refine PL.pairI (as := [.int (xs (nI i + 1).toNatClampNeg)]) (pc1 := 438) (pc2 := 447) (pcE := 951) (J_next hI _) GX10_next GX11_next kL_law_438 kL_law_447 ⟨_, _, rfl⟩ ⟨_, _, rfl⟩ rfl (intsV_c intsV_n) (Nat.le_of_ble_eq_true rfl) (Nat.le_of_ble_eq_true rfl) q hI (lsL_wf q _) (fun w h' hh' k => ?_) (fun w h' k => ?_) (fun h' a1 a2 a3 a4 r1 r2 => pl_tab (K h' a1 a2 a3 a4 r1 r2))
  · refine PL.bk GL_10 6 (cf' := (447, lsL (nI i), [.int (xs (nI i + 1).toNatClampNeg), .ref 49, .int w], h')) rfl ⟨hh', v1, trivial⟩ ?_
    exact k
  · exact PL.bk GL_10 1 (cf' := (if w = w then 951 else 453, lsL (nI i), [], h')) rfl trivial (PL.if (fun _ => k) (fun z => absurd rfl z))
theorem J_safest {hx hm : PH} (hI : INV hx hm) (a0 : Int32) : JI mX10_safest mX10_safest.2.2.1 mX11_safest mX11_safest.2.2.1 [.int a0] hx hm := by
  obtain ⟨_, _, _, _, _, _, _, _, _, _, _, _, _, _, _, _, _, _, _, _, hT, rfl, rfl⟩ := hI
  exact j_safest hT a0
theorem cs_11 {b L : Nat} {xs : Nat → Int32} {i : Nat} (hi : i + 6 ≤ L) (hL : L ≤ 3072) {h : PH} {io1 io2 : List Nat} {hx hm : PH} {mc ms : Nat} (q : LH h io1 io2 hx hm) (hI : INV hx hm) (K : ∀ h' io1' io2' hx' hm', LH h' io1' io2' hx' hm' → INV hx' hm' → PL (mL_h L xs) b L xs mc ms (951, lsL (nI i), [], h')) : PL (mL_h L xs) b L xs (3 + mc) (165 + ms) (455, lsL (nI i), [], h) := by
  have hh : h.length ≤ sB := Nat.le_of_lt (q.sb hI)
  have v1 : vp_in (nI i + 1) L := vpk (j := 1) hi hL (by decide)
  refine pl_tab (t1 := tL_11 L xs) (t2 := tL_h L xs) ?_
  refine PL.bk GL_11 6 (cf' := (461, lsL (nI i), [.int (xs (nI i + 1).toNatClampNeg), .ref 0], h)) rfl ⟨hh, v1, trivial⟩ ?_
  refine PL.pairI (as := [.int (xs (nI i + 1).toNatClampNeg)]) (pc1 := 461) (pc2 := 470) (pcE := 951) (J_safest hI _) GX10_safest GX11_safest kL_law_461 kL_law_470 ⟨_, _, rfl⟩ ⟨_, _, rfl⟩ rfl (intsV_c intsV_n) (Nat.le_of_ble_eq_true rfl) (Nat.le_of_ble_eq_true rfl) q hI (lsL_wf q _) (fun w h' hh' k => ?_) (fun w h' k => ?_) (fun h' a1 a2 a3 a4 r1 r2 => pl_tab (K h' a1 a2 a3 a4 r1 r2))
  · refine PL.bk GL_11 6 (cf' := (470, lsL (nI i), [.int (xs (nI i + 1).toNatClampNeg), .ref 49, .int w], h')) rfl ⟨hh', v1, trivial⟩ ?_
    exact k
  · exact PL.bk GL_11 1 (cf' := (if w = w then 951 else 476, lsL (nI i), [], h')) rfl trivial (PL.if (fun _ => k) (fun z => absurd rfl z))
theorem J_fewest {hx hm : PH} (hI : INV hx hm) (a0 : Int32) : JI mX10_fewest mX10_fewest.2.2.1 mX11_fewest mX11_fewest.2.2.1 [.int a0] hx hm := by
  obtain ⟨_, _, _, _, _, _, _, _, _, _, _, _, _, _, _, _, _, _, _, _, hT, rfl, rfl⟩ := hI
  exact j_fewest hT a0
theorem cs_12 {b L : Nat} {xs : Nat → Int32} {i : Nat} (hi : i + 6 ≤ L) (hL : L ≤ 3072) {h : PH} {io1 io2 : List Nat} {hx hm : PH} {mc ms : Nat} (q : LH h io1 io2 hx hm) (hI : INV hx hm) (K : ∀ h' io1' io2' hx' hm', LH h' io1' io2' hx' hm' → INV hx' hm' → PL (mL_h L xs) b L xs mc ms (951, lsL (nI i), [], h')) : PL (mL_h L xs) b L xs (3 + mc) (165 + ms) (478, lsL (nI i), [], h) := by
  have hh : h.length ≤ sB := Nat.le_of_lt (q.sb hI)
  have v1 : vp_in (nI i + 1) L := vpk (j := 1) hi hL (by decide)
  refine pl_tab (t1 := tL_12 L xs) (t2 := tL_h L xs) ?_
  refine PL.bk GL_12 6 (cf' := (484, lsL (nI i), [.int (xs (nI i + 1).toNatClampNeg), .ref 0], h)) rfl ⟨hh, v1, trivial⟩ ?_
  refine PL.pairI (as := [.int (xs (nI i + 1).toNatClampNeg)]) (pc1 := 484) (pc2 := 493) (pcE := 951) (J_fewest hI _) GX10_fewest GX11_fewest kL_law_484 kL_law_493 ⟨_, _, rfl⟩ ⟨_, _, rfl⟩ rfl (intsV_c intsV_n) (Nat.le_of_ble_eq_true rfl) (Nat.le_of_ble_eq_true rfl) q hI (lsL_wf q _) (fun w h' hh' k => ?_) (fun w h' k => ?_) (fun h' a1 a2 a3 a4 r1 r2 => pl_tab (K h' a1 a2 a3 a4 r1 r2))
  · refine PL.bk GL_12 6 (cf' := (493, lsL (nI i), [.int (xs (nI i + 1).toNatClampNeg), .ref 49, .int w], h')) rfl ⟨hh', v1, trivial⟩ ?_
    exact k
  · exact PL.bk GL_12 1 (cf' := (if w = w then 951 else 499, lsL (nI i), [], h')) rfl trivial (PL.if (fun _ => k) (fun z => absurd rfl z))
theorem J_wrong {hx hm : PH} (hI : INV hx hm)  : JI mX10_wrong mX10_wrong.2.2.1 mX11_wrong mX11_wrong.2.2.1 [] hx hm := by
  obtain ⟨_, _, _, _, _, _, _, _, _, _, _, _, _, _, _, _, _, _, _, _, hT, rfl, rfl⟩ := hI
  exact j_wrong hT 
theorem cs_13 {b L : Nat} {xs : Nat → Int32} {i : Nat} (hi : i + 6 ≤ L) (hL : L ≤ 3072) {h : PH} {io1 io2 : List Nat} {hx hm : PH} {mc ms : Nat} (q : LH h io1 io2 hx hm) (hI : INV hx hm) (K : ∀ h' io1' io2' hx' hm', LH h' io1' io2' hx' hm' → INV hx' hm' → PL (mL_h L xs) b L xs mc ms (951, lsL (nI i), [], h')) : PL (mL_h L xs) b L xs (3 + mc) (165 + ms) (501, lsL (nI i), [], h) := by
  have hh : h.length ≤ sB := Nat.le_of_lt (q.sb hI)
  refine pl_tab (t1 := tL_13 L xs) (t2 := tL_h L xs) ?_
  refine PL.bk GL_13 1 (cf' := (502, lsL (nI i), [.ref 0], h)) rfl trivial ?_
  refine PL.pairI (as := []) (pc1 := 502) (pc2 := 506) (pcE := 951) (J_wrong hI ) GX10_wrong GX11_wrong kL_law_502 kL_law_506 ⟨_, _, rfl⟩ ⟨_, _, rfl⟩ rfl intsV_n (Nat.le_of_ble_eq_true rfl) (Nat.le_of_ble_eq_true rfl) q hI (lsL_wf q _) (fun w h' hh' k => ?_) (fun w h' k => ?_) (fun h' a1 a2 a3 a4 r1 r2 => pl_tab (K h' a1 a2 a3 a4 r1 r2))
  · refine PL.bk GL_13 1 (cf' := (506, lsL (nI i), [.ref 49, .int w], h')) rfl trivial ?_
    exact k
  · exact PL.bk GL_13 1 (cf' := (if w = w then 951 else 512, lsL (nI i), [], h')) rfl trivial (PL.if (fun _ => k) (fun z => absurd rfl z))
theorem J_tells {hx hm : PH} (hI : INV hx hm) (a0 a1 a2 : Int32) : JI mX10_tells mX10_tells.2.2.1 mX11_tells mX11_tells.2.2.1 [.int a0, .int a1, .int a2] hx hm := by
  obtain ⟨_, _, _, _, _, _, _, _, _, _, _, _, _, _, _, _, _, _, _, _, hT, rfl, rfl⟩ := hI
  exact j_tells hT a0 a1 a2
theorem cs_14 {b L : Nat} {xs : Nat → Int32} {i : Nat} (hi : i + 6 ≤ L) (hL : L ≤ 3072) {h : PH} {io1 io2 : List Nat} {hx hm : PH} {mc ms : Nat} (q : LH h io1 io2 hx hm) (hI : INV hx hm) (K : ∀ h' io1' io2' hx' hm', LH h' io1' io2' hx' hm' → INV hx' hm' → PL (mL_h L xs) b L xs mc ms (951, lsL (nI i), [], h')) : PL (mL_h L xs) b L xs (3 + mc) (165 + ms) (514, lsL (nI i), [], h) := by
  have hh : h.length ≤ sB := Nat.le_of_lt (q.sb hI)
  have v1 : vp_in (nI i + 1) L := vpk (j := 1) hi hL (by decide)
  have v2 : vp_in (nI i + 2) L := vpk (j := 2) hi hL (by decide)
  have v3 : vp_in (nI i + 3) L := vpk (j := 3) hi hL (by decide)
  refine pl_tab (t1 := tL_14 L xs) (t2 := tL_h L xs) ?_
  refine PL.bk GL_14 6 (cf' := (520, lsL (nI i), [.int (xs (nI i + 1).toNatClampNeg), .ref 0], h)) rfl ⟨hh, v1, trivial⟩ ?_
  refine PL.bk GL_14 5 (cf' := (525, lsL (nI i), [.int (xs (nI i + 2).toNatClampNeg), .int (xs (nI i + 1).toNatClampNeg), .ref 0], h)) rfl ⟨hh, v2, trivial⟩ ?_
  refine PL.bk GL_14 5 (cf' := (530, lsL (nI i), [.int (xs (nI i + 3).toNatClampNeg), .int (xs (nI i + 2).toNatClampNeg), .int (xs (nI i + 1).toNatClampNeg), .ref 0], h)) rfl ⟨hh, v3, trivial⟩ ?_
  refine PL.pairI (as := [.int (xs (nI i + 1).toNatClampNeg), .int (xs (nI i + 2).toNatClampNeg), .int (xs (nI i + 3).toNatClampNeg)]) (pc1 := 530) (pc2 := 549) (pcE := 951) (J_tells hI _ _ _) GX10_tells GX11_tells kL_law_530 kL_law_549 ⟨_, _, rfl⟩ ⟨_, _, rfl⟩ rfl (intsV_c (intsV_c (intsV_c intsV_n))) (Nat.le_of_ble_eq_true rfl) (Nat.le_of_ble_eq_true rfl) q hI (lsL_wf q _) (fun w h' hh' k => ?_) (fun w h' k => ?_) (fun h' a1 a2 a3 a4 r1 r2 => pl_tab (K h' a1 a2 a3 a4 r1 r2))
  · refine PL.bk GL_14 6 (cf' := (539, lsL (nI i), [.int (xs (nI i + 1).toNatClampNeg), .ref 49, .int w], h')) rfl ⟨hh', v1, trivial⟩ ?_
    refine PL.bk GL_14 5 (cf' := (544, lsL (nI i), [.int (xs (nI i + 2).toNatClampNeg), .int (xs (nI i + 1).toNatClampNeg), .ref 49, .int w], h')) rfl ⟨hh', v2, trivial⟩ ?_
    refine PL.bk GL_14 5 (cf' := (549, lsL (nI i), [.int (xs (nI i + 3).toNatClampNeg), .int (xs (nI i + 2).toNatClampNeg), .int (xs (nI i + 1).toNatClampNeg), .ref 49, .int w], h')) rfl ⟨hh', v3, trivial⟩ ?_
    exact k
  · exact PL.bk GL_14 1 (cf' := (if w = w then 951 else 555, lsL (nI i), [], h')) rfl trivial (PL.if (fun _ => k) (fun z => absurd rfl z))
theorem J_film {hx hm : PH} (hI : INV hx hm) (a0 a1 : Int32) : JI mX10_film mX10_film.2.2.1 mX11_film mX11_film.2.2.1 [.int a0, .int a1] hx hm := by
  obtain ⟨_, _, _, _, _, _, _, _, _, _, _, _, _, _, _, _, _, _, _, _, hT, rfl, rfl⟩ := hI
  exact j_film hT a0 a1
theorem cs_15 {b L : Nat} {xs : Nat → Int32} {i : Nat} (hi : i + 6 ≤ L) (hL : L ≤ 3072) {h : PH} {io1 io2 : List Nat} {hx hm : PH} {mc ms : Nat} (q : LH h io1 io2 hx hm) (hI : INV hx hm) (K : ∀ h' io1' io2' hx' hm', LH h' io1' io2' hx' hm' → INV hx' hm' → PL (mL_h L xs) b L xs mc ms (951, lsL (nI i), [], h')) : PL (mL_h L xs) b L xs (3 + mc) (165 + ms) (557, lsL (nI i), [], h) := by
  have hh : h.length ≤ sB := Nat.le_of_lt (q.sb hI)
  have v1 : vp_in (nI i + 1) L := vpk (j := 1) hi hL (by decide)
  have v2 : vp_in (nI i + 2) L := vpk (j := 2) hi hL (by decide)
  refine pl_tab (t1 := tL_15 L xs) (t2 := tL_h L xs) ?_
  refine PL.bk GL_15 6 (cf' := (563, lsL (nI i), [.int (xs (nI i + 1).toNatClampNeg), .ref 0], h)) rfl ⟨hh, v1, trivial⟩ ?_
  refine PL.bk GL_15 5 (cf' := (568, lsL (nI i), [.int (xs (nI i + 2).toNatClampNeg), .int (xs (nI i + 1).toNatClampNeg), .ref 0], h)) rfl ⟨hh, v2, trivial⟩ ?_
  refine PL.pairI (as := [.int (xs (nI i + 1).toNatClampNeg), .int (xs (nI i + 2).toNatClampNeg)]) (pc1 := 568) (pc2 := 582) (pcE := 951) (J_film hI _ _) GX10_film GX11_film kL_law_568 kL_law_582 ⟨_, _, rfl⟩ ⟨_, _, rfl⟩ rfl (intsV_c (intsV_c intsV_n)) (Nat.le_of_ble_eq_true rfl) (Nat.le_of_ble_eq_true rfl) q hI (lsL_wf q _) (fun w h' hh' k => ?_) (fun w h' k => ?_) (fun h' a1 a2 a3 a4 r1 r2 => pl_tab (K h' a1 a2 a3 a4 r1 r2))
  · refine PL.bk GL_15 6 (cf' := (577, lsL (nI i), [.int (xs (nI i + 1).toNatClampNeg), .ref 49, .int w], h')) rfl ⟨hh', v1, trivial⟩ ?_
    refine PL.bk GL_15 5 (cf' := (582, lsL (nI i), [.int (xs (nI i + 2).toNatClampNeg), .int (xs (nI i + 1).toNatClampNeg), .ref 49, .int w], h')) rfl ⟨hh', v2, trivial⟩ ?_
    exact k
  · exact PL.bk GL_15 1 (cf' := (if w = w then 951 else 588, lsL (nI i), [], h')) rfl trivial (PL.if (fun _ => k) (fun z => absurd rfl z))
theorem J_drawn {hx hm : PH} (hI : INV hx hm) (a0 : Int32) : JI mX10_drawn mX10_drawn.2.2.1 mX11_drawn mX11_drawn.2.2.1 [.int a0] hx hm := by
  obtain ⟨_, _, _, _, _, _, _, _, _, _, _, _, _, _, _, _, _, _, _, _, hT, rfl, rfl⟩ := hI
  exact j_drawn hT a0
theorem cs_16 {b L : Nat} {xs : Nat → Int32} {i : Nat} (hi : i + 6 ≤ L) (hL : L ≤ 3072) {h : PH} {io1 io2 : List Nat} {hx hm : PH} {mc ms : Nat} (q : LH h io1 io2 hx hm) (hI : INV hx hm) (K : ∀ h' io1' io2' hx' hm', LH h' io1' io2' hx' hm' → INV hx' hm' → PL (mL_h L xs) b L xs mc ms (951, lsL (nI i), [], h')) : PL (mL_h L xs) b L xs (3 + mc) (165 + ms) (590, lsL (nI i), [], h) := by
  have hh : h.length ≤ sB := Nat.le_of_lt (q.sb hI)
  have v1 : vp_in (nI i + 1) L := vpk (j := 1) hi hL (by decide)
  refine pl_tab (t1 := tL_16 L xs) (t2 := tL_h L xs) ?_
  refine PL.bk GL_16 6 (cf' := (596, lsL (nI i), [.int (xs (nI i + 1).toNatClampNeg), .ref 0], h)) rfl ⟨hh, v1, trivial⟩ ?_
  refine PL.pairI (as := [.int (xs (nI i + 1).toNatClampNeg)]) (pc1 := 596) (pc2 := 605) (pcE := 951) (J_drawn hI _) GX10_drawn GX11_drawn kL_law_596 kL_law_605 ⟨_, _, rfl⟩ ⟨_, _, rfl⟩ rfl (intsV_c intsV_n) (Nat.le_of_ble_eq_true rfl) (Nat.le_of_ble_eq_true rfl) q hI (lsL_wf q _) (fun w h' hh' k => ?_) (fun w h' k => ?_) (fun h' a1 a2 a3 a4 r1 r2 => pl_tab (K h' a1 a2 a3 a4 r1 r2))
  · refine PL.bk GL_16 6 (cf' := (605, lsL (nI i), [.int (xs (nI i + 1).toNatClampNeg), .ref 49, .int w], h')) rfl ⟨hh', v1, trivial⟩ ?_
    exact k
  · exact PL.bk GL_16 1 (cf' := (if w = w then 951 else 611, lsL (nI i), [], h')) rfl trivial (PL.if (fun _ => k) (fun z => absurd rfl z))
theorem J_chance {hx hm : PH} (hI : INV hx hm) (a0 a1 a2 a3 : Int32) : JL mX10_chance mX10_chance.2.2.1 mX11_chance mX11_chance.2.2.1 [.int a0, .int a1, .int a2, .int a3] hx hm := by
  obtain ⟨_, _, _, _, _, _, _, _, _, _, _, _, _, _, _, _, _, _, _, _, hT, rfl, rfl⟩ := hI
  exact j_chance hT a0 a1 a2 a3
theorem cs_17 {b L : Nat} {xs : Nat → Int32} {i : Nat} (hi : i + 6 ≤ L) (hL : L ≤ 3072) {h : PH} {io1 io2 : List Nat} {hx hm : PH} {mc ms : Nat} (q : LH h io1 io2 hx hm) (hI : INV hx hm) (K : ∀ h' io1' io2' hx' hm', LH h' io1' io2' hx' hm' → INV hx' hm' → PL (mL_h L xs) b L xs mc ms (951, lsL (nI i), [], h')) : PL (mL_h L xs) b L xs (3 + mc) (165 + ms) (613, lsL (nI i), [], h) := by
  have hh : h.length ≤ sB := Nat.le_of_lt (q.sb hI)
  have v1 : vp_in (nI i + 1) L := vpk (j := 1) hi hL (by decide)
  have v2 : vp_in (nI i + 2) L := vpk (j := 2) hi hL (by decide)
  have v3 : vp_in (nI i + 3) L := vpk (j := 3) hi hL (by decide)
  have v4 : vp_in (nI i + 4) L := vpk (j := 4) hi hL (by decide)
  refine pl_tab (t1 := tL_17 L xs) (t2 := tL_h L xs) ?_
  refine PL.bk GL_17 6 (cf' := (619, lsL (nI i), [.int (xs (nI i + 1).toNatClampNeg), .ref 0], h)) rfl ⟨hh, v1, trivial⟩ ?_
  refine PL.bk GL_17 5 (cf' := (624, lsL (nI i), [.int (xs (nI i + 2).toNatClampNeg), .int (xs (nI i + 1).toNatClampNeg), .ref 0], h)) rfl ⟨hh, v2, trivial⟩ ?_
  refine PL.bk GL_17 5 (cf' := (629, lsL (nI i), [.int (xs (nI i + 3).toNatClampNeg), .int (xs (nI i + 2).toNatClampNeg), .int (xs (nI i + 1).toNatClampNeg), .ref 0], h)) rfl ⟨hh, v3, trivial⟩ ?_
  refine PL.bk GL_17 5 (cf' := (634, lsL (nI i), [.int (xs (nI i + 4).toNatClampNeg), .int (xs (nI i + 3).toNatClampNeg), .int (xs (nI i + 2).toNatClampNeg), .int (xs (nI i + 1).toNatClampNeg), .ref 0], h)) rfl ⟨hh, v4, trivial⟩ ?_
  refine PL.pairL (as := [.int (xs (nI i + 1).toNatClampNeg), .int (xs (nI i + 2).toNatClampNeg), .int (xs (nI i + 3).toNatClampNeg), .int (xs (nI i + 4).toNatClampNeg)]) (pc1 := 634) (pc2 := 658) (pcE := 951) (J_chance hI _ _ _ _) GX10_chance GX11_chance kL_law_634 kL_law_658 ⟨_, _, rfl⟩ ⟨_, _, rfl⟩ rfl (intsV_c (intsV_c (intsV_c (intsV_c intsV_n)))) (Nat.le_of_ble_eq_true rfl) (Nat.le_of_ble_eq_true rfl) q hI (lsL_wf q _) (fun w h' hh' k => ?_) (fun w h' k => ?_) (fun h' a1 a2 a3 a4 r1 r2 => pl_tab (K h' a1 a2 a3 a4 r1 r2))
  · refine PL.bk GL_17 6 (cf' := (643, lsL (nI i), [.int (xs (nI i + 1).toNatClampNeg), .ref 49, .long w], h')) rfl ⟨hh', v1, trivial⟩ ?_
    refine PL.bk GL_17 5 (cf' := (648, lsL (nI i), [.int (xs (nI i + 2).toNatClampNeg), .int (xs (nI i + 1).toNatClampNeg), .ref 49, .long w], h')) rfl ⟨hh', v2, trivial⟩ ?_
    refine PL.bk GL_17 5 (cf' := (653, lsL (nI i), [.int (xs (nI i + 3).toNatClampNeg), .int (xs (nI i + 2).toNatClampNeg), .int (xs (nI i + 1).toNatClampNeg), .ref 49, .long w], h')) rfl ⟨hh', v3, trivial⟩ ?_
    refine PL.bk GL_17 5 (cf' := (658, lsL (nI i), [.int (xs (nI i + 4).toNatClampNeg), .int (xs (nI i + 3).toNatClampNeg), .int (xs (nI i + 2).toNatClampNeg), .int (xs (nI i + 1).toNatClampNeg), .ref 49, .long w], h')) rfl ⟨hh', v4, trivial⟩ ?_
    exact k
  · refine PL.bk GL_17 2 (cf' := (if lg_cmp w w = 0 then 951 else 665, lsL (nI i), [], h')) rfl trivial (PL.if (fun _ => k) (fun z => absurd (show lg_cmp w w = 0 by rw [lgc_eq]) z))
theorem J_image {hx hm : PH} (hI : INV hx hm)  : JI mX10_image mX10_image.2.2.1 mX11_image mX11_image.2.2.1 [] hx hm := by
  obtain ⟨_, _, _, _, _, _, _, _, _, _, _, _, _, _, _, _, _, _, _, _, hT, rfl, rfl⟩ := hI
  exact j_image hT 
theorem cs_18 {b L : Nat} {xs : Nat → Int32} {i : Nat} (hi : i + 6 ≤ L) (hL : L ≤ 3072) {h : PH} {io1 io2 : List Nat} {hx hm : PH} {mc ms : Nat} (q : LH h io1 io2 hx hm) (hI : INV hx hm) (K : ∀ h' io1' io2' hx' hm', LH h' io1' io2' hx' hm' → INV hx' hm' → PL (mL_h L xs) b L xs mc ms (951, lsL (nI i), [], h')) : PL (mL_h L xs) b L xs (3 + mc) (165 + ms) (667, lsL (nI i), [], h) := by
  have hh : h.length ≤ sB := Nat.le_of_lt (q.sb hI)
  refine pl_tab (t1 := tL_18 L xs) (t2 := tL_h L xs) ?_
  refine PL.bk GL_18 1 (cf' := (668, lsL (nI i), [.ref 0], h)) rfl trivial ?_
  refine PL.pairI (as := []) (pc1 := 668) (pc2 := 672) (pcE := 951) (J_image hI ) GX10_image GX11_image kL_law_668 kL_law_672 ⟨_, _, rfl⟩ ⟨_, _, rfl⟩ rfl intsV_n (Nat.le_of_ble_eq_true rfl) (Nat.le_of_ble_eq_true rfl) q hI (lsL_wf q _) (fun w h' hh' k => ?_) (fun w h' k => ?_) (fun h' a1 a2 a3 a4 r1 r2 => pl_tab (K h' a1 a2 a3 a4 r1 r2))
  · refine PL.bk GL_18 1 (cf' := (672, lsL (nI i), [.ref 49, .int w], h')) rfl trivial ?_
    exact k
  · exact PL.bk GL_18 1 (cf' := (if w = w then 951 else 678, lsL (nI i), [], h')) rfl trivial (PL.if (fun _ => k) (fun z => absurd rfl z))
theorem J_back {hx hm : PH} (hI : INV hx hm)  : JI mX10_back mX10_back.2.2.1 mX11_back mX11_back.2.2.1 [] hx hm := by
  obtain ⟨_, _, _, _, _, _, _, _, _, _, _, _, _, _, _, _, _, _, _, _, hT, rfl, rfl⟩ := hI
  exact j_back hT 
theorem cs_19 {b L : Nat} {xs : Nat → Int32} {i : Nat} (hi : i + 6 ≤ L) (hL : L ≤ 3072) {h : PH} {io1 io2 : List Nat} {hx hm : PH} {mc ms : Nat} (q : LH h io1 io2 hx hm) (hI : INV hx hm) (K : ∀ h' io1' io2' hx' hm', LH h' io1' io2' hx' hm' → INV hx' hm' → PL (mL_h L xs) b L xs mc ms (951, lsL (nI i), [], h')) : PL (mL_h L xs) b L xs (3 + mc) (165 + ms) (680, lsL (nI i), [], h) := by
  have hh : h.length ≤ sB := Nat.le_of_lt (q.sb hI)
  refine pl_tab (t1 := tL_19 L xs) (t2 := tL_h L xs) ?_
  refine PL.bk GL_19 1 (cf' := (681, lsL (nI i), [.ref 0], h)) rfl trivial ?_
  refine PL.pairI (as := []) (pc1 := 681) (pc2 := 685) (pcE := 951) (J_back hI ) GX10_back GX11_back kL_law_681 kL_law_685 ⟨_, _, rfl⟩ ⟨_, _, rfl⟩ rfl intsV_n (Nat.le_of_ble_eq_true rfl) (Nat.le_of_ble_eq_true rfl) q hI (lsL_wf q _) (fun w h' hh' k => ?_) (fun w h' k => ?_) (fun h' a1 a2 a3 a4 r1 r2 => pl_tab (K h' a1 a2 a3 a4 r1 r2))
  · refine PL.bk GL_19 1 (cf' := (685, lsL (nI i), [.ref 49, .int w], h')) rfl trivial ?_
    exact k
  · exact PL.bk GL_19 1 (cf' := (if w = w then 951 else 691, lsL (nI i), [], h')) rfl trivial (PL.if (fun _ => k) (fun z => absurd rfl z))
theorem J_count {hx hm : PH} (hI : INV hx hm) (a0 : Int32) : JI mX10_count mX10_count.2.2.1 mX11_count mX11_count.2.2.1 [.int a0] hx hm := by
  obtain ⟨_, _, _, _, _, _, _, _, _, _, _, _, _, _, _, _, _, _, _, _, hT, rfl, rfl⟩ := hI
  exact j_count hT a0
theorem cs_20 {b L : Nat} {xs : Nat → Int32} {i : Nat} (hi : i + 6 ≤ L) (hL : L ≤ 3072) {h : PH} {io1 io2 : List Nat} {hx hm : PH} {mc ms : Nat} (q : LH h io1 io2 hx hm) (hI : INV hx hm) (K : ∀ h' io1' io2' hx' hm', LH h' io1' io2' hx' hm' → INV hx' hm' → PL (mL_h L xs) b L xs mc ms (951, lsL (nI i), [], h')) : PL (mL_h L xs) b L xs (3 + mc) (165 + ms) (693, lsL (nI i), [], h) := by
  have hh : h.length ≤ sB := Nat.le_of_lt (q.sb hI)
  have v1 : vp_in (nI i + 1) L := vpk (j := 1) hi hL (by decide)
  refine pl_tab (t1 := tL_20 L xs) (t2 := tL_h L xs) ?_
  refine PL.bk GL_20 6 (cf' := (699, lsL (nI i), [.int (xs (nI i + 1).toNatClampNeg), .ref 0], h)) rfl ⟨hh, v1, trivial⟩ ?_
  refine PL.pairI (as := [.int (xs (nI i + 1).toNatClampNeg)]) (pc1 := 699) (pc2 := 708) (pcE := 951) (J_count hI _) GX10_count GX11_count kL_law_699 kL_law_708 ⟨_, _, rfl⟩ ⟨_, _, rfl⟩ rfl (intsV_c intsV_n) (Nat.le_of_ble_eq_true rfl) (Nat.le_of_ble_eq_true rfl) q hI (lsL_wf q _) (fun w h' hh' k => ?_) (fun w h' k => ?_) (fun h' a1 a2 a3 a4 r1 r2 => pl_tab (K h' a1 a2 a3 a4 r1 r2))
  · refine PL.bk GL_20 6 (cf' := (708, lsL (nI i), [.int (xs (nI i + 1).toNatClampNeg), .ref 49, .int w], h')) rfl ⟨hh', v1, trivial⟩ ?_
    exact k
  · exact PL.bk GL_20 1 (cf' := (if w = w then 951 else 714, lsL (nI i), [], h')) rfl trivial (PL.if (fun _ => k) (fun z => absurd rfl z))
theorem J_sheet {hx hm : PH} (hI : INV hx hm) (a0 a1 a2 : Int32) : JI mX10_sheet mX10_sheet.2.2.1 mX11_sheet mX11_sheet.2.2.1 [.int a0, .int a1, .int a2] hx hm := by
  obtain ⟨_, _, _, _, _, _, _, _, _, _, _, _, _, _, _, _, _, _, _, _, hT, rfl, rfl⟩ := hI
  exact j_sheet hT a0 a1 a2
theorem cs_21 {b L : Nat} {xs : Nat → Int32} {i : Nat} (hi : i + 6 ≤ L) (hL : L ≤ 3072) {h : PH} {io1 io2 : List Nat} {hx hm : PH} {mc ms : Nat} (q : LH h io1 io2 hx hm) (hI : INV hx hm) (K : ∀ h' io1' io2' hx' hm', LH h' io1' io2' hx' hm' → INV hx' hm' → PL (mL_h L xs) b L xs mc ms (951, lsL (nI i), [], h')) : PL (mL_h L xs) b L xs (3 + mc) (165 + ms) (716, lsL (nI i), [], h) := by
  have hh : h.length ≤ sB := Nat.le_of_lt (q.sb hI)
  have v1 : vp_in (nI i + 1) L := vpk (j := 1) hi hL (by decide)
  have v2 : vp_in (nI i + 2) L := vpk (j := 2) hi hL (by decide)
  have v3 : vp_in (nI i + 3) L := vpk (j := 3) hi hL (by decide)
  refine pl_tab (t1 := tL_21 L xs) (t2 := tL_h L xs) ?_
  refine PL.bk GL_21 6 (cf' := (722, lsL (nI i), [.int (xs (nI i + 1).toNatClampNeg), .ref 0], h)) rfl ⟨hh, v1, trivial⟩ ?_
  refine PL.bk GL_21 5 (cf' := (727, lsL (nI i), [.int (xs (nI i + 2).toNatClampNeg), .int (xs (nI i + 1).toNatClampNeg), .ref 0], h)) rfl ⟨hh, v2, trivial⟩ ?_
  refine PL.bk GL_21 5 (cf' := (732, lsL (nI i), [.int (xs (nI i + 3).toNatClampNeg), .int (xs (nI i + 2).toNatClampNeg), .int (xs (nI i + 1).toNatClampNeg), .ref 0], h)) rfl ⟨hh, v3, trivial⟩ ?_
  refine PL.pairI (as := [.int (xs (nI i + 1).toNatClampNeg), .int (xs (nI i + 2).toNatClampNeg), .int (xs (nI i + 3).toNatClampNeg)]) (pc1 := 732) (pc2 := 751) (pcE := 951) (J_sheet hI _ _ _) GX10_sheet GX11_sheet kL_law_732 kL_law_751 ⟨_, _, rfl⟩ ⟨_, _, rfl⟩ rfl (intsV_c (intsV_c (intsV_c intsV_n))) (Nat.le_of_ble_eq_true rfl) (Nat.le_of_ble_eq_true rfl) q hI (lsL_wf q _) (fun w h' hh' k => ?_) (fun w h' k => ?_) (fun h' a1 a2 a3 a4 r1 r2 => pl_tab (K h' a1 a2 a3 a4 r1 r2))
  · refine PL.bk GL_21 6 (cf' := (741, lsL (nI i), [.int (xs (nI i + 1).toNatClampNeg), .ref 49, .int w], h')) rfl ⟨hh', v1, trivial⟩ ?_
    refine PL.bk GL_21 5 (cf' := (746, lsL (nI i), [.int (xs (nI i + 2).toNatClampNeg), .int (xs (nI i + 1).toNatClampNeg), .ref 49, .int w], h')) rfl ⟨hh', v2, trivial⟩ ?_
    refine PL.bk GL_21 5 (cf' := (751, lsL (nI i), [.int (xs (nI i + 3).toNatClampNeg), .int (xs (nI i + 2).toNatClampNeg), .int (xs (nI i + 1).toNatClampNeg), .ref 49, .int w], h')) rfl ⟨hh', v3, trivial⟩ ?_
    exact k
  · exact PL.bk GL_21 1 (cf' := (if w = w then 951 else 757, lsL (nI i), [], h')) rfl trivial (PL.if (fun _ => k) (fun z => absurd rfl z))
theorem J_cell {hx hm : PH} (hI : INV hx hm) (a0 a1 a2 : Int32) : JI mX10_cell mX10_cell.2.2.1 mX11_cell mX11_cell.2.2.1 [.int a0, .int a1, .int a2] hx hm := by
  obtain ⟨_, _, _, _, _, _, _, _, _, _, _, _, _, _, _, _, _, _, _, _, hT, rfl, rfl⟩ := hI
  exact j_cell hT a0 a1 a2
theorem cs_22 {b L : Nat} {xs : Nat → Int32} {i : Nat} (hi : i + 6 ≤ L) (hL : L ≤ 3072) {h : PH} {io1 io2 : List Nat} {hx hm : PH} {mc ms : Nat} (q : LH h io1 io2 hx hm) (hI : INV hx hm) (K : ∀ h' io1' io2' hx' hm', LH h' io1' io2' hx' hm' → INV hx' hm' → PL (mL_h L xs) b L xs mc ms (951, lsL (nI i), [], h')) : PL (mL_h L xs) b L xs (3 + mc) (165 + ms) (759, lsL (nI i), [], h) := by
  have hh : h.length ≤ sB := Nat.le_of_lt (q.sb hI)
  have v1 : vp_in (nI i + 1) L := vpk (j := 1) hi hL (by decide)
  have v2 : vp_in (nI i + 2) L := vpk (j := 2) hi hL (by decide)
  have v3 : vp_in (nI i + 3) L := vpk (j := 3) hi hL (by decide)
  refine pl_tab (t1 := tL_22 L xs) (t2 := tL_h L xs) ?_
  refine PL.bk GL_22 6 (cf' := (765, lsL (nI i), [.int (xs (nI i + 1).toNatClampNeg), .ref 0], h)) rfl ⟨hh, v1, trivial⟩ ?_
  refine PL.bk GL_22 5 (cf' := (770, lsL (nI i), [.int (xs (nI i + 2).toNatClampNeg), .int (xs (nI i + 1).toNatClampNeg), .ref 0], h)) rfl ⟨hh, v2, trivial⟩ ?_
  refine PL.bk GL_22 5 (cf' := (775, lsL (nI i), [.int (xs (nI i + 3).toNatClampNeg), .int (xs (nI i + 2).toNatClampNeg), .int (xs (nI i + 1).toNatClampNeg), .ref 0], h)) rfl ⟨hh, v3, trivial⟩ ?_
  refine PL.pairI (as := [.int (xs (nI i + 1).toNatClampNeg), .int (xs (nI i + 2).toNatClampNeg), .int (xs (nI i + 3).toNatClampNeg)]) (pc1 := 775) (pc2 := 794) (pcE := 951) (J_cell hI _ _ _) GX10_cell GX11_cell kL_law_775 kL_law_794 ⟨_, _, rfl⟩ ⟨_, _, rfl⟩ rfl (intsV_c (intsV_c (intsV_c intsV_n))) (Nat.le_of_ble_eq_true rfl) (Nat.le_of_ble_eq_true rfl) q hI (lsL_wf q _) (fun w h' hh' k => ?_) (fun w h' k => ?_) (fun h' a1 a2 a3 a4 r1 r2 => pl_tab (K h' a1 a2 a3 a4 r1 r2))
  · refine PL.bk GL_22 6 (cf' := (784, lsL (nI i), [.int (xs (nI i + 1).toNatClampNeg), .ref 49, .int w], h')) rfl ⟨hh', v1, trivial⟩ ?_
    refine PL.bk GL_22 5 (cf' := (789, lsL (nI i), [.int (xs (nI i + 2).toNatClampNeg), .int (xs (nI i + 1).toNatClampNeg), .ref 49, .int w], h')) rfl ⟨hh', v2, trivial⟩ ?_
    refine PL.bk GL_22 5 (cf' := (794, lsL (nI i), [.int (xs (nI i + 3).toNatClampNeg), .int (xs (nI i + 2).toNatClampNeg), .int (xs (nI i + 1).toNatClampNeg), .ref 49, .int w], h')) rfl ⟨hh', v3, trivial⟩ ?_
    exact k
  · exact PL.bk GL_22 1 (cf' := (if w = w then 951 else 800, lsL (nI i), [], h')) rfl trivial (PL.if (fun _ => k) (fun z => absurd rfl z))
theorem J_copy {hx hm : PH} (hI : INV hx hm) (a0 a1 a2 a3 a4 : Int32) : JI mX10_copy mX10_copy.2.2.1 mX11_copy mX11_copy.2.2.1 [.int a0, .int a1, .int a2, .int a3, .int a4] hx hm := by
  obtain ⟨_, _, _, _, _, _, _, _, _, _, _, _, _, _, _, _, _, _, _, _, hT, rfl, rfl⟩ := hI
  exact j_copy hT a0 a1 a2 a3 a4
theorem cs_23 {b L : Nat} {xs : Nat → Int32} {i : Nat} (hi : i + 6 ≤ L) (hL : L ≤ 3072) {h : PH} {io1 io2 : List Nat} {hx hm : PH} {mc ms : Nat} (q : LH h io1 io2 hx hm) (hI : INV hx hm) (K : ∀ h' io1' io2' hx' hm', LH h' io1' io2' hx' hm' → INV hx' hm' → PL (mL_h L xs) b L xs mc ms (951, lsL (nI i), [], h')) : PL (mL_h L xs) b L xs (3 + mc) (165 + ms) (802, lsL (nI i), [], h) := by
  have hh : h.length ≤ sB := Nat.le_of_lt (q.sb hI)
  have v1 : vp_in (nI i + 1) L := vpk (j := 1) hi hL (by decide)
  have v2 : vp_in (nI i + 2) L := vpk (j := 2) hi hL (by decide)
  have v3 : vp_in (nI i + 3) L := vpk (j := 3) hi hL (by decide)
  have v4 : vp_in (nI i + 4) L := vpk (j := 4) hi hL (by decide)
  have v5 : vp_in (nI i + 5) L := vpk (j := 5) hi hL (by decide)
  refine pl_tab (t1 := tL_23 L xs) (t2 := tL_h L xs) ?_
  refine PL.bk GL_23 6 (cf' := (808, lsL (nI i), [.int (xs (nI i + 1).toNatClampNeg), .ref 0], h)) rfl ⟨hh, v1, trivial⟩ ?_
  refine PL.bk GL_23 5 (cf' := (813, lsL (nI i), [.int (xs (nI i + 2).toNatClampNeg), .int (xs (nI i + 1).toNatClampNeg), .ref 0], h)) rfl ⟨hh, v2, trivial⟩ ?_
  refine PL.bk GL_23 5 (cf' := (818, lsL (nI i), [.int (xs (nI i + 3).toNatClampNeg), .int (xs (nI i + 2).toNatClampNeg), .int (xs (nI i + 1).toNatClampNeg), .ref 0], h)) rfl ⟨hh, v3, trivial⟩ ?_
  refine PL.bk GL_23 5 (cf' := (823, lsL (nI i), [.int (xs (nI i + 4).toNatClampNeg), .int (xs (nI i + 3).toNatClampNeg), .int (xs (nI i + 2).toNatClampNeg), .int (xs (nI i + 1).toNatClampNeg), .ref 0], h)) rfl ⟨hh, v4, trivial⟩ ?_
  refine PL.bk GL_23 5 (cf' := (828, lsL (nI i), [.int (xs (nI i + 5).toNatClampNeg), .int (xs (nI i + 4).toNatClampNeg), .int (xs (nI i + 3).toNatClampNeg), .int (xs (nI i + 2).toNatClampNeg), .int (xs (nI i + 1).toNatClampNeg), .ref 0], h)) rfl ⟨hh, v5, trivial⟩ ?_
  refine PL.pairI (as := [.int (xs (nI i + 1).toNatClampNeg), .int (xs (nI i + 2).toNatClampNeg), .int (xs (nI i + 3).toNatClampNeg), .int (xs (nI i + 4).toNatClampNeg), .int (xs (nI i + 5).toNatClampNeg)]) (pc1 := 828) (pc2 := 857) (pcE := 951) (J_copy hI _ _ _ _ _) GX10_copy GX11_copy kL_law_828 kL_law_857 ⟨_, _, rfl⟩ ⟨_, _, rfl⟩ rfl (intsV_c (intsV_c (intsV_c (intsV_c (intsV_c intsV_n))))) (Nat.le_of_ble_eq_true rfl) (Nat.le_of_ble_eq_true rfl) q hI (lsL_wf q _) (fun w h' hh' k => ?_) (fun w h' k => ?_) (fun h' a1 a2 a3 a4 r1 r2 => pl_tab (K h' a1 a2 a3 a4 r1 r2))
  · refine PL.bk GL_23 6 (cf' := (837, lsL (nI i), [.int (xs (nI i + 1).toNatClampNeg), .ref 49, .int w], h')) rfl ⟨hh', v1, trivial⟩ ?_
    refine PL.bk GL_23 5 (cf' := (842, lsL (nI i), [.int (xs (nI i + 2).toNatClampNeg), .int (xs (nI i + 1).toNatClampNeg), .ref 49, .int w], h')) rfl ⟨hh', v2, trivial⟩ ?_
    refine PL.bk GL_23 5 (cf' := (847, lsL (nI i), [.int (xs (nI i + 3).toNatClampNeg), .int (xs (nI i + 2).toNatClampNeg), .int (xs (nI i + 1).toNatClampNeg), .ref 49, .int w], h')) rfl ⟨hh', v3, trivial⟩ ?_
    refine PL.bk GL_23 5 (cf' := (852, lsL (nI i), [.int (xs (nI i + 4).toNatClampNeg), .int (xs (nI i + 3).toNatClampNeg), .int (xs (nI i + 2).toNatClampNeg), .int (xs (nI i + 1).toNatClampNeg), .ref 49, .int w], h')) rfl ⟨hh', v4, trivial⟩ ?_
    refine PL.bk GL_23 5 (cf' := (857, lsL (nI i), [.int (xs (nI i + 5).toNatClampNeg), .int (xs (nI i + 4).toNatClampNeg), .int (xs (nI i + 3).toNatClampNeg), .int (xs (nI i + 2).toNatClampNeg), .int (xs (nI i + 1).toNatClampNeg), .ref 49, .int w], h')) rfl ⟨hh', v5, trivial⟩ ?_
    exact k
  · exact PL.bk GL_23 1 (cf' := (if w = w then 951 else 863, lsL (nI i), [], h')) rfl trivial (PL.if (fun _ => k) (fun z => absurd rfl z))
theorem J_witnesses {hx hm : PH} (hI : INV hx hm) (a0 a1 a2 a3 : Int32) : JI mX10_witnesses mX10_witnesses.2.2.1 mX11_witnesses mX11_witnesses.2.2.1 [.int a0, .int a1, .int a2, .int a3] hx hm := by
  obtain ⟨_, _, _, _, _, _, _, _, _, _, _, _, _, _, _, _, _, _, _, _, hT, rfl, rfl⟩ := hI
  exact j_witnesses hT a0 a1 a2 a3
theorem cs_24 {b L : Nat} {xs : Nat → Int32} {i : Nat} (hi : i + 6 ≤ L) (hL : L ≤ 3072) {h : PH} {io1 io2 : List Nat} {hx hm : PH} {mc ms : Nat} (q : LH h io1 io2 hx hm) (hI : INV hx hm) (K : ∀ h' io1' io2' hx' hm', LH h' io1' io2' hx' hm' → INV hx' hm' → PL (mL_h L xs) b L xs mc ms (951, lsL (nI i), [], h')) : PL (mL_h L xs) b L xs (3 + mc) (165 + ms) (865, lsL (nI i), [], h) := by
  have hh : h.length ≤ sB := Nat.le_of_lt (q.sb hI)
  have v1 : vp_in (nI i + 1) L := vpk (j := 1) hi hL (by decide)
  have v2 : vp_in (nI i + 2) L := vpk (j := 2) hi hL (by decide)
  have v3 : vp_in (nI i + 3) L := vpk (j := 3) hi hL (by decide)
  have v4 : vp_in (nI i + 4) L := vpk (j := 4) hi hL (by decide)
  refine pl_tab (t1 := tL_24 L xs) (t2 := tL_h L xs) ?_
  refine PL.bk GL_24 6 (cf' := (871, lsL (nI i), [.int (xs (nI i + 1).toNatClampNeg), .ref 0], h)) rfl ⟨hh, v1, trivial⟩ ?_
  refine PL.bk GL_24 5 (cf' := (876, lsL (nI i), [.int (xs (nI i + 2).toNatClampNeg), .int (xs (nI i + 1).toNatClampNeg), .ref 0], h)) rfl ⟨hh, v2, trivial⟩ ?_
  refine PL.bk GL_24 5 (cf' := (881, lsL (nI i), [.int (xs (nI i + 3).toNatClampNeg), .int (xs (nI i + 2).toNatClampNeg), .int (xs (nI i + 1).toNatClampNeg), .ref 0], h)) rfl ⟨hh, v3, trivial⟩ ?_
  refine PL.bk GL_24 5 (cf' := (886, lsL (nI i), [.int (xs (nI i + 4).toNatClampNeg), .int (xs (nI i + 3).toNatClampNeg), .int (xs (nI i + 2).toNatClampNeg), .int (xs (nI i + 1).toNatClampNeg), .ref 0], h)) rfl ⟨hh, v4, trivial⟩ ?_
  refine PL.pairI (as := [.int (xs (nI i + 1).toNatClampNeg), .int (xs (nI i + 2).toNatClampNeg), .int (xs (nI i + 3).toNatClampNeg), .int (xs (nI i + 4).toNatClampNeg)]) (pc1 := 886) (pc2 := 910) (pcE := 951) (J_witnesses hI _ _ _ _) GX10_witnesses GX11_witnesses kL_law_886 kL_law_910 ⟨_, _, rfl⟩ ⟨_, _, rfl⟩ rfl (intsV_c (intsV_c (intsV_c (intsV_c intsV_n)))) (Nat.le_of_ble_eq_true rfl) (Nat.le_of_ble_eq_true rfl) q hI (lsL_wf q _) (fun w h' hh' k => ?_) (fun w h' k => ?_) (fun h' a1 a2 a3 a4 r1 r2 => pl_tab (K h' a1 a2 a3 a4 r1 r2))
  · refine PL.bk GL_24 6 (cf' := (895, lsL (nI i), [.int (xs (nI i + 1).toNatClampNeg), .ref 49, .int w], h')) rfl ⟨hh', v1, trivial⟩ ?_
    refine PL.bk GL_24 5 (cf' := (900, lsL (nI i), [.int (xs (nI i + 2).toNatClampNeg), .int (xs (nI i + 1).toNatClampNeg), .ref 49, .int w], h')) rfl ⟨hh', v2, trivial⟩ ?_
    refine PL.bk GL_24 5 (cf' := (905, lsL (nI i), [.int (xs (nI i + 3).toNatClampNeg), .int (xs (nI i + 2).toNatClampNeg), .int (xs (nI i + 1).toNatClampNeg), .ref 49, .int w], h')) rfl ⟨hh', v3, trivial⟩ ?_
    refine PL.bk GL_24 5 (cf' := (910, lsL (nI i), [.int (xs (nI i + 4).toNatClampNeg), .int (xs (nI i + 3).toNatClampNeg), .int (xs (nI i + 2).toNatClampNeg), .int (xs (nI i + 1).toNatClampNeg), .ref 49, .int w], h')) rfl ⟨hh', v4, trivial⟩ ?_
    exact k
  · exact PL.bk GL_24 1 (cf' := (if w = w then 951 else 916, lsL (nI i), [], h')) rfl trivial (PL.if (fun _ => k) (fun z => absurd rfl z))
theorem J_taken {hx hm : PH} (hI : INV hx hm) (a0 a1 : Int32) : JI mX10_taken mX10_taken.2.2.1 mX11_taken mX11_taken.2.2.1 [.int a0, .int a1] hx hm := by
  obtain ⟨_, _, _, _, _, _, _, _, _, _, _, _, _, _, _, _, _, _, _, _, hT, rfl, rfl⟩ := hI
  exact j_taken hT a0 a1
theorem cs_25 {b L : Nat} {xs : Nat → Int32} {i : Nat} (hi : i + 6 ≤ L) (hL : L ≤ 3072) {h : PH} {io1 io2 : List Nat} {hx hm : PH} {mc ms : Nat} (q : LH h io1 io2 hx hm) (hI : INV hx hm) (K : ∀ h' io1' io2' hx' hm', LH h' io1' io2' hx' hm' → INV hx' hm' → PL (mL_h L xs) b L xs mc ms (951, lsL (nI i), [], h')) : PL (mL_h L xs) b L xs (3 + mc) (165 + ms) (918, lsL (nI i), [], h) := by
  have hh : h.length ≤ sB := Nat.le_of_lt (q.sb hI)
  have v1 : vp_in (nI i + 1) L := vpk (j := 1) hi hL (by decide)
  have v2 : vp_in (nI i + 2) L := vpk (j := 2) hi hL (by decide)
  refine pl_tab (t1 := tL_25 L xs) (t2 := tL_h L xs) ?_
  refine PL.bk GL_25 6 (cf' := (924, lsL (nI i), [.int (xs (nI i + 1).toNatClampNeg), .ref 0], h)) rfl ⟨hh, v1, trivial⟩ ?_
  refine PL.bk GL_25 5 (cf' := (929, lsL (nI i), [.int (xs (nI i + 2).toNatClampNeg), .int (xs (nI i + 1).toNatClampNeg), .ref 0], h)) rfl ⟨hh, v2, trivial⟩ ?_
  refine PL.pairI (as := [.int (xs (nI i + 1).toNatClampNeg), .int (xs (nI i + 2).toNatClampNeg)]) (pc1 := 929) (pc2 := 943) (pcE := 951) (J_taken hI _ _) GX10_taken GX11_taken kL_law_929 kL_law_943 ⟨_, _, rfl⟩ ⟨_, _, rfl⟩ rfl (intsV_c (intsV_c intsV_n)) (Nat.le_of_ble_eq_true rfl) (Nat.le_of_ble_eq_true rfl) q hI (lsL_wf q _) (fun w h' hh' k => ?_) (fun w h' k => ?_) (fun h' a1 a2 a3 a4 r1 r2 => pl_tab (K h' a1 a2 a3 a4 r1 r2))
  · refine PL.bk GL_25 6 (cf' := (938, lsL (nI i), [.int (xs (nI i + 1).toNatClampNeg), .ref 49, .int w], h')) rfl ⟨hh', v1, trivial⟩ ?_
    refine PL.bk GL_25 5 (cf' := (943, lsL (nI i), [.int (xs (nI i + 2).toNatClampNeg), .int (xs (nI i + 1).toNatClampNeg), .ref 49, .int w], h')) rfl ⟨hh', v2, trivial⟩ ?_
    exact k
  · exact PL.bk GL_25 1 (cf' := (if w = w then 951 else 949, lsL (nI i), [], h')) rfl trivial (PL.if (fun _ => k) (fun z => absurd rfl z))
theorem lw_end {b L : Nat} {xs : Nat → Int32} {mc ms : Nat} {ls : List (Option Value)} {h : PH} : PL (mL_h L xs) b L xs mc ms (957, ls, [], h) :=
  PL.bk GL_h 1 (cf' := (958, ls, [.int 1], h)) rfl trivial (PL.ret rfl (by decide +kernel))
theorem lw_cmp {L i : Nat} (hL : L ≤ 3072) (hi : i ≤ 100000) : Int32.ofNat L - 6 < nI i ↔ ¬ i + 6 ≤ L := by
  have t6 : (6 : Int32).toInt = 6 := by decide
  have tL : (Int32.ofNat L).toInt = (L : Int) := nI_toInt (n := L) (by omega)
  have ti : (nI i).toInt = (i : Int) := nI_toInt (by omega)
  rw [Int32.lt_iff_toInt_lt, Int32.toInt_sub, tL, t6, ti, Int.bmod_eq_of_le (by omega) (by omega)]
  omega
theorem lw_loop {b L : Nat} {xs : Nat → Int32} (hL : L ≤ 3072) : ∀ n r, r + n ≤ 600 → L < 6 * (r + n) + 6 → ∀ h io1 io2 hx hm, LH h io1 io2 hx hm → INV hx hm → PL (mL_h L xs) b L xs (3 * n) (165 * n) (18, lsL (nI (6 * r)), [], h)
  | 0, r, hr, hn, h, io1, io2, hx, hm, q, hI => by
    refine PL.bk GL_h 6 (cf' := (if Int32.ofNat L - 6 < nI (6 * r) then 957 else 27, lsL (nI (6 * r)), [], h)) rfl ⟨Nat.le_of_lt (q.sb hI), trivial⟩ (PL.if (fun _ => lw_end) (fun z => ?_))
    exact absurd ((lw_cmp hL (by omega)).mpr (by omega)) z
  | n + 1, r, hr, hn, h, io1, io2, hx, hm, q, hI => by
    have hh : h.length ≤ sB := Nat.le_of_lt (q.sb hI)
    refine PL.bk GL_h 6 (cf' := (if Int32.ofNat L - 6 < nI (6 * r) then 957 else 27, lsL (nI (6 * r)), [], h)) rfl ⟨hh, trivial⟩ (PL.if (fun _ => lw_end) (fun z => ?_))
    have hi : 6 * r + 6 ≤ L := Classical.byContradiction (fun y => z ((lw_cmp hL (by omega)).mpr y))
    have K : ∀ h' io1' io2' hx' hm', LH h' io1' io2' hx' hm' → INV hx' hm' → PL (mL_h L xs) b L xs (3 * n) (165 * n) (951, lsL (nI (6 * r)), [], h') := fun h' a1 a2 a3 a4 q' hI' => by
      refine PL.bk GL_h 2 (cf' := (18, lsL (nI (6 * r) + 6), [], h')) rfl trivial ?_
      rw [show nI (6 * r) + 6 = nI (6 * (r + 1)) from nI_add (6 * r) 6]
      exact lw_loop hL n (r + 1) (by omega) (by omega) h' a1 a2 a3 a4 q' hI'
    rw [show 3 * (n + 1) = 3 + 3 * n by omega, show 165 * (n + 1) = 165 + 165 * n by omega]
    refine PL.bk GL_h 6 (cf' := (swT (xs (nI (6 * r)).toNatClampNeg &&& 31) 951 [(0, 152), (1, 195), (2, 238), (3, 271), (4, 294), (5, 307), (6, 330), (7, 353), (8, 376), (9, 399), (10, 432), (11, 455), (12, 478), (13, 501), (14, 514), (15, 557), (16, 590), (17, 613), (18, 667), (19, 680), (20, 693), (21, 716), (22, 759), (23, 802), (24, 865), (25, 918)], lsL (nI (6 * r)), [], h)) rfl ⟨hh, nI_vp (by omega) (by omega), trivial⟩ ?_
    refine PL.sw (cs_0 hi hL q hI K) ?_
    refine PL.sw (cs_1 hi hL q hI K) ?_
    refine PL.sw (cs_2 hi hL q hI K) ?_
    refine PL.sw (cs_3 hi hL q hI K) ?_
    refine PL.sw (cs_4 hi hL q hI K) ?_
    refine PL.sw (cs_5 hi hL q hI K) ?_
    refine PL.sw (cs_6 hi hL q hI K) ?_
    refine PL.sw (cs_7 hi hL q hI K) ?_
    refine PL.sw (cs_8 hi hL q hI K) ?_
    refine PL.sw (cs_9 hi hL q hI K) ?_
    refine PL.sw (cs_10 hi hL q hI K) ?_
    refine PL.sw (cs_11 hi hL q hI K) ?_
    refine PL.sw (cs_12 hi hL q hI K) ?_
    refine PL.sw (cs_13 hi hL q hI K) ?_
    refine PL.sw (cs_14 hi hL q hI K) ?_
    refine PL.sw (cs_15 hi hL q hI K) ?_
    refine PL.sw (cs_16 hi hL q hI K) ?_
    refine PL.sw (cs_17 hi hL q hI K) ?_
    refine PL.sw (cs_18 hi hL q hI K) ?_
    refine PL.sw (cs_19 hi hL q hI K) ?_
    refine PL.sw (cs_20 hi hL q hI K) ?_
    refine PL.sw (cs_21 hi hL q hI K) ?_
    refine PL.sw (cs_22 hi hL q hI K) ?_
    refine PL.sw (cs_23 hi hL q hI K) ?_
    refine PL.sw (cs_24 hi hL q hI K) ?_
    refine PL.sw (cs_25 hi hL q hI K) ?_
    exact PL.mono (K h io1 io2 hx hm q hI) (by omega) (by omega)
