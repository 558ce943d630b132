/-! ===== what the reference says by its rows is what the other says by its own ===== -/
def TV (A : Nat → Nat → Int32) (t : Nat) (V : (Nat → Int32) → Int32 → Int32) : Prop := ∀ e k, rdV k (rdT A t (A 2 t).toNatClampNeg e) = V e k
theorem ask_c {A : Nat → Nat → Int32} {t : Nat} {V : (Nat → Int32) → Int32 → Int32} (h : TV A t V) (age which nu se s d last : Int32) : askV A t age which nu se s d last = cut which (V (ev d s nu last se (age + s)) which) := by
  unfold askV; rw [h]
theorem ix1_c {x : Nat} (hx : x < 6) : (3 * nI x + 1).toNatClampNeg = 3 * x + 1 := row_cl (j := 1) hx (by decide)
section TC
variable {A : Nat → Nat → Int32} {t : Nat} {V : (Nat → Int32) → Int32 → Int32} {age kd nu saw : Int32} {x : Nat}
theorem say_c (h : TV A t V) (hx : x < 6) (h1 : A 5 x = kd) (h2 : A 6 (3 * x) = nu) (h3 : A 6 (3 * x + 1) = saw) (s d last : Int32) : sayV A t age (nI x) s d last = sayK kd nu saw s d (cut 0 (V (ev d s nu last (kb 7 saw) (age + s)) 0)) := by
  rw [sayK_V, ask_c h, nI_clamp (by omega), ix_m0 (by omega), ix1_c hx, h1, h2, h3]
theorem last_c {f F : Nat → Int32} {s : Nat} (hs : s < 6) (hf : ∀ s, s < 6 → F s = f s) : (if nI s = 0 then 0 else F (nI s - 1).toNatClampNeg) = lstV f s := by
  unfold lstV
  by_cases e : s = 0
  · rw [e, if_pos nI_0, if_pos rfl]
  · have h0 : ¬ nI s = 0 := fun z => e ((nI_eq (a := s) (b := 0) (by omega) (by decide)).mp (z.trans nI_0.symm))
    rw [if_neg h0, if_neg e, show nI s - 1 = nI (s - 1) from nI_sub (a := s) (b := 1) (by omega), nI_clamp (by omega), hf _ (by omega)]
theorem now_c {f : Nat → Int32} {s : Nat} (h : TV A t V) (hx : x < 6) (hs : s < 6) (h1 : A 5 x = kd) (h2 : A 6 (3 * x) = nu) (h3 : A 6 (3 * x + 1) = saw) (hf : ∀ s, s < 6 → A 4 s = f s) : nowV A t age (nI x) (nI s) = sayK kd nu saw (nI s) (f s) (cut 0 (V (ev (f s) (nI s) nu (lstV f s) (kb 7 saw) (age + nI s)) 0)) := by
  unfold nowV
  rw [last_c hs hf, nI_clamp (by omega), hf s hs, say_c h hx h1 h2 h3]
theorem fir_c {f row : Nat → Int32} {sh : Nat} (h : TV A t V) (hx : x < 6) (hsh : sh < 4) (h1 : A 5 x = kd) (h2 : A 6 (3 * x) = nu) (h3 : A 6 (3 * x + 1) = saw) (hf : ∀ s, s < 6 → A 4 s = f s) (hr : ∀ s, s < 6 → A 17 (40 * sh + s) = row s) : firV A t age sh x = fsI (foB V kd nu saw f age row) 6 := by
  have : fst (othB A t age sh x) 6 = fst (foB V kd nu saw f age row) 6 := fst_c (fun s hs => by
    unfold othB foB
    rw [now_c h hx hs h1 h2 h3 hf, ix_2 hsh (by omega), hr s hs])
  unfold firV fsI
  rw [this]
  cases fst (foB V kd nu saw f age row) 6 <;> rfl
theorem cost_c (h : TV A t V) (hx : x < 6) (h1 : A 5 x = kd) (h2 : A 6 (3 * x) = nu) (h3 : A 6 (3 * x + 1) = saw) : costV A t age (nI x) = prcK kd nu (cut 1 (V (ev 0 0 nu 0 (kb 7 saw) age) 1)) := by
  rw [prcK_V, ask_c h, nI_clamp (by omega), ix_m0 (by omega), ix1_c hx, h1, h2, h3, Int32.add_zero]
theorem val_c (h : TV A t V) (hx : x < 6) (h1 : A 5 x = kd) (h2 : A 6 (3 * x) = nu) (h3 : A 6 (3 * x + 1) = saw) {s l d : Nat} (hl : l < 4) (hd : d < 4) : valX A t age x s l d = lrn V kd nu saw age ((s * 4 + l) * 4 + d) := by
  unfold valX lrn
  rw [say_c h hx h1 h2 h3, show ((s * 4 + l) * 4 + d) / 16 = s by omega, show ((s * 4 + l) * 4 + d) % 4 = d by omega, show ((s * 4 + l) * 4 + d) / 4 % 4 = l by omega]
end TC
/-- witnesses of the one and of the other -/
def TW (q A : Nat → Nat → Int32) (m : Nat) : Prop := ∀ x, x < m → (∃ k, k < 6 ∧ q x 1 = nI k) ∧ bcOK (q x 3) ∧ (q x 4 = 0 ∨ q x 4 = 1) ∧ A 5 x = q x 1 ∧ A 6 (3 * x) = q x 2 ∧ A 6 (3 * x + 1) = q x 3 ∧ A 6 (3 * x + 2) = q x 4
def RLw (V : (Nat → Int32) → Int32 → Int32) (q : Nat → Nat → Int32) (age : Int32) : Nat → Nat → Int32 := fun x => lrn V (q x 1) (q x 2) (q x 3) age
section TWS
variable {A q : Nat → Nat → Int32} {t m : Nat} {V : (Nat → Int32) → Int32 → Int32} {age : Int32}
theorem TW.wok (hW : TW q A m) (hm : m ≤ 6) : ∀ i, i < m → WOK A (nI i) := fun i hi => by
  obtain ⟨_, ⟨v, hv, hb⟩, _, _, _, h3, _⟩ := hW i hi
  refine ⟨nI_vp (by omega) (by decide), row_in0 (by omega), row_in (j := 1) (by omega) (by decide), nI_m1' (by omega), ?_⟩
  rw [ix1_c (by omega), h3, hb]
  exact zz_64 v hv
theorem TW.sent (hW : TW q A m) (hm : m ≤ 6) : sentV (A 6) m = sbV q m := sent_same hm (fun x hx => ⟨(hW x hx).2.2.2.2.2.2, (hW x hx).2.2.1⟩)
theorem sbw_lt (q : Nat → Nat → Int32) {m : Nat} (hm : m ≤ 6) : ∃ w, w < 64 ∧ sbV q m = nI w := ⟨_, bN_lt _ m hm, sbV_n q hm⟩
theorem TW.wro (hW : TW q A m) (hm : m ≤ 6) (h : TV A t V) {f : Nat → Int32} (hf : ∀ s, s < 6 → A 4 s = f s) : wroV A t age m = fsI (fun x => (fst (cBad V q f age x) 6).isSome) m := by
  have : fst (fun x => (fst (badB A t age x) 6).isSome) m = fst (fun x => (fst (cBad V q f age x) 6).isSome) m := fst_c (fun x hx => by
    obtain ⟨_, _, _, h1, h2, h3, _⟩ := hW x hx
    have : fst (badB A t age x) 6 = fst (cBad V q f age x) 6 := fst_c (fun s hs => by
      unfold badB cBad cSay
      rw [now_c h (by omega) hs h1 h2 h3 hf, nI_clamp (by omega), hf s hs])
    show (fst (badB A t age x) 6).isSome = _
    rw [this])
  unfold wroV fsI
  rw [this]
  cases fst (fun x => (fst (cBad V q f age x) 6).isSome) m <;> rfl
theorem TW.cost (hW : TW q A m) (hm : m ≤ 6) (h : TV A t V) {x : Nat} (hx : x < m) : costV A t age (nI x) = cPrc V q age x := by
  obtain ⟨_, _, _, h1, h2, h3, _⟩ := hW x hx
  exact cost_c h (by omega) h1 h2 h3
theorem TW.costs (hW : TW q A m) (hm : m ≤ 6) (h : TV A t V) (set : Int32) : costsV A t age m set = psV (cPrc V q age) m set := it_congr m (fun x v hx => by
  unfold costF psF
  rw [hW.cost hm h hx]
  by_cases e : (set >>> (nI x &&& 31)) &&& 1 = 1
  · rw [if_pos e, if_pos e]
  · rw [if_neg e, if_neg e, Int32.add_zero])
theorem TW.val (hW : TW q A m) (hm : m ≤ 6) (h : TV A t V) : ∀ x s l d, x < m → s < 6 → l < 4 → d < 4 → valX A t age x s l d = RLw V q age x ((s * 4 + l) * 4 + d) := fun x s l d hx hs hl hd => by
  obtain ⟨_, _, _, h1, h2, h3, _⟩ := hW x hx
  exact val_c h (by omega) h1 h2 h3 hl hd
theorem TW.fit (hW : TW q A m) (hm : m ≤ 6) (h : TV A t V) {dl : Nat → Nat} (hdl : ∀ s, s < 6 → dl s < 4) (hlf : ∀ s, s < 6 → A 4 s = nI (dl s)) (r7 r8 : Nat → Int32) {w : Nat} (hw : w < 64) : FitR (gatV A t age m r7 r8) (nI w) (fb (ALV (RLw V q age) dl m) (nI w)) := fun L hL => by
  rw [gat_ind hm r7 r8 hL]
  exact fit_same hm hdl hlf (hW.val hm h) hw L hL
theorem TW.fits (hW : TW q A m) (hm : m ≤ 6) (h : TV A t V) {dl : Nat → Nat} (hdl : ∀ s, s < 6 → dl s < 4) (hlf : ∀ s, s < 6 → A 4 s = nI (dl s)) (r7 r8 : Nat → Int32) : FitR (gatV A t age m r7 r8) (sentV (A 6) m) (fb (ALV (RLw V q age) dl m) (sbV q m)) := by
  obtain ⟨w, hw, e⟩ := sbw_lt q hm
  rw [hW.sent hm, e]
  exact hW.fit hm h hdl hlf r7 r8 hw
theorem TW.by (hW : TW q A m) (hm : m ≤ 6) (h : TV A t V) (r7 : Nat → Int32) {x : Nat} (hx : x < m) : ∀ s L, s < 6 → L < 4096 → byV (tabV A t age m r7) (nI x) (nI s) (nI L) = RLw V q age x ((s * 4 + pN L s) * 4 + dN L s) := fun s L hs hL => by
  rw [byV_eq hm (tabV_P hm r7) hx hs]
  unfold sayL
  rw [doV_n hL hs, lastV_n hL hs]
  exact hW.val hm h x s _ _ hx hs (pN_lt L s) (dN_lt L s)
end TWS
theorem sayK_rng (k nu saw s v : Int32) {d : Nat} (hd : d < 4) : ∃ i, i < 7 ∧ sayK k nu saw s (nI d) v = tlv i := by
  have h0 : ∃ i, i < 7 ∧ (-1 : Int32) = tlv i := ⟨0, by decide, by decide⟩
  have h1 : ∃ i, i < 7 ∧ nI d = tlv i := by revert d; decide +kernel
  have h2 : ∃ i, i < 7 ∧ 4 + nI d / 2 = tlv i := by revert d; decide +kernel
  have h3 : ∃ i, i < 7 ∧ (nI d + 1) - (nI d + 1) / 4 * 4 = tlv i := by revert d; decide +kernel
  unfold sayK
  repeat' split
  all_goals assumption
theorem RLw_rng (V : (Nat → Int32) → Int32 → Int32) (q : Nat → Nat → Int32) (age : Int32) (x p : Nat) : ∃ i, i < 7 ∧ RLw V q age x p = tlv i := sayK_rng _ _ _ _ _ (Nat.mod_lt _ (by decide))
theorem it_tlv : ∀ i, i < 7 → itV 0 (tlv i) = tlv i := by decide +kernel
/-- what a life's steps come to -/
theorem wl_c {A : Nat → Nat → Int32} {t : Nat} {V : (Nat → Int32) → Int32 → Int32} {age which : Int32} (h : TV A t V) {f : Nat → Int32} {dl : Nat → Nat} (hdl : ∀ s, s < 6 → dl s < 4) (hf : ∀ s, s < 6 → f s = nI (dl s)) (hA : ∀ s, s < 6 → A 4 s = nI (dl s)) (R9 : Nat → Int32) : valV (vasV A t age which R9) (lifeV (A 4)) = wlV V f age which := by
  rw [lifeV_n hA]
  refine it_congr 6 (fun s v hs => ?_)
  have hL := nmb_lt hdl
  have hl : lstV f s = nI (ldo dl s) := by
    unfold lstV
    cases s with
    | zero => exact nI_0.symm
    | succ s => rw [if_neg (Nat.succ_ne_zero s), Nat.succ_sub_one, hf s (by omega)]; rfl
  unfold valF wlF
  rw [doV_n hL hs, lastV_n hL hs, vas_at hs (pN_in _ s) (dN_lt _ s), nmb_at hdl s hs, nmb_p hdl hs, hf s hs, hl]
  unfold vK
  rw [ask_c h]
theorem wt_c {A : Nat → Nat → Int32} {t : Nat} {V : (Nat → Int32) → Int32 → Int32} {age which : Int32} (h : TV A t V) {s l d : Nat} (hl : l < 4) (hd : d < 4) : cut which (V (ev (nI (((s * 4 + l) * 4 + d) % 4)) (nI (((s * 4 + l) * 4 + d) / 16)) 0 (nI (((s * 4 + l) * 4 + d) / 4 % 4)) 0 (age + nI (((s * 4 + l) * 4 + d) / 16))) which) = vK A t age which s l d := by
  rw [show ((s * 4 + l) * 4 + d) / 16 = s by omega, show ((s * 4 + l) * 4 + d) % 4 = d by omega, show ((s * 4 + l) * 4 + d) / 4 % 4 = l by omega]
  unfold vK
  rw [ask_c h]
theorem wt_p {A : Nat → Nat → Int32} {t : Nat} {V : (Nat → Int32) → Int32 → Int32} {age which : Int32} (h : TV A t V) {s l d : Nat} (hl : l < 4) (hd : d < 4) : (cWt V age which 1 ((s * 4 + l) * 4 + d)).toInt = 1 * (vK A t age which s l d).toInt := by
  unfold cWt
  rw [wt_c h hl hd, Int32.one_mul, Int.one_mul]
theorem m1_mul (x : Int32) : (-1 : Int32) * x = -x := by
  rw [show (-1 : Int32) = -(1 : Int32) by decide, Int32.neg_mul, Int32.one_mul]
theorem wt_m {A : Nat → Nat → Int32} {t : Nat} {V : (Nat → Int32) → Int32 → Int32} {age which : Int32} (h : TV A t V) {s l d : Nat} (hl : l < 4) (hd : d < 4) : (cWt V age which (-1) ((s * 4 + l) * 4 + d)).toInt = -1 * (vK A t age which s l d).toInt := by
  unfold cWt
  rw [wt_c h hl hd, show (-1 : Int32) * vK A t age which s l d = - vK A t age which s l d from m1_mul _, neg_toInt (by have := vK_rng A t age which s l d; omega)]
  omega
theorem wb_of {wt : Nat → Int32} {A : Nat → Nat → Int32} {t : Nat} {age which : Int32} {sg : Int} (hsg : sg = 1 ∨ sg = -1) (h : ∀ s l d, s < 6 → l < 4 → d < 4 → (wt ((s * 4 + l) * 4 + d)).toInt = sg * (vK A t age which s l d).toInt) : WB wt := fun k hk => by
  have e : k = (k / 16 * 4 + k / 4 % 4) * 4 + k % 4 := by omega
  rw [e, h _ _ _ (by omega) (by omega) (by omega)]
  have := vK_rng A t age which (k / 16) (k / 4 % 4) (k % 4)
  rcases hsg with e | e <;> rw [e] <;> omega
