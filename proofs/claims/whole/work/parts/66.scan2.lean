/-! ===== laid by program (wip/tools) ===== -/
section RD
variable {tp B : Nat → Int32} {n : Nat} {P : Int32 → Bool}
theorem rd_lt (hR : RdOK tp n B) {e : Nat} (he : e ≤ n) (h : ¬ nI n ≤ nI e) : e < n := Nat.not_le.mp (fun z => h (nI_le z (by have := hR.1; omega)))
theorem rd_ge (hR : RdOK tp n B) {e : Nat} (he : e ≤ n) (h : nI n ≤ nI e) : n ≤ e := (nI_leI (by have := hR.1; omega) (by have := hR.1; omega)).mp h
theorem bb_out (hR : RdOK tp n B) (hP : P (-1) = false) {k e : Nat} (he : e ≤ n) (h : nI n ≤ nI e) : nI e = nI (adv P B k e) := by
  rw [adv_self (by rw [hR.2.2 e (rd_ge hR he h)]; exact hP)]
theorem bb_no (hR : RdOK tp n B) {k e : Nat} (he : e ≤ n) (h : ¬ nI n ≤ nI e) (hp : P (tp e) = false) : nI e = nI (adv P B k e) := by
  rw [adv_self (by rw [← hR.2.1 e (rd_lt hR he h)]; exact hp)]
theorem bb_st (hR : RdOK tp n B) {k e : Nat} (he : e ≤ n) (h : ¬ nI n ≤ nI e) (hp : P (tp e) = true) : adv P B (k + 1) e = adv P B k (e + 1) := adv_step (by rw [← hR.2.1 e (rd_lt hR he h)]; exact hp)
theorem bl_no {b : Int32} (h1 : ¬ b = 32) (h2 : ¬ b = 10) : isBl b = false := by simp [isBl, h1, h2]
theorem bl_y1 {b : Int32} (h1 : b = 32) : isBl b = true := by simp [isBl, h1]
theorem bl_y2 {b : Int32} (h1 : b = 10) : isBl b = true := by simp [isBl, h1]
theorem rd_out (hR : RdOK tp n B) (hP : P (-1) = false) : ∀ j, n ≤ j → P (B j) = false := fun j h => by rw [hR.2.2 j h]; exact hP
def tk (B : Nat → Int32) (q : Nat) : Nat := if isLt (B q) = true then eoL B q else if isDg (B q) = true then eoD B q else q + 1
theorem tk_gt (B : Nat → Int32) (q : Nat) : ∃ c, 0 < c ∧ tk B q = q + c := by
  have key : ∀ P : Int32 → Bool, P (B q) = true → ∃ c, 0 < c ∧ adv P B 200 q = q + c := fun P h => by
    have e : adv P B 200 q = adv P B 199 (q + 1) := adv_step h
    have g := adv_ge P B 199 (q + 1)
    exact ⟨adv P B 200 q - q, by omega, by omega⟩
  unfold tk
  split
  · next h => exact key isLt h
  · split
    · next h => exact key isDg h
    · exact ⟨1, by decide, rfl⟩
theorem tk_le (hR : RdOK tp n B) {q : Nat} (hq : q < n) : tk B q ≤ n := by
  unfold tk
  split
  · exact adv_le (rd_out hR (by decide)) _ _ (by omega)
  · split
    · exact adv_le (rd_out hR (by decide)) _ _ (by omega)
    · exact hq
theorem sgB_sg (hR : RdOK tp n B) (hb : ∀ j, j < n → 0 ≤ B j) {q c : Nat} (hq : q < n) (hc : tk B q = q + c) (hcn : q + c ≤ n) : sgB tp q c = sg B q := by
  have e0 := hR.2.1 q hq
  have h0 : ¬ B q < 0 := Int32.not_lt.mpr (hb q hq)
  have hcg : ∀ j, j < c → tp (q + j) = B (q + j) := fun j hj => hR.2.1 _ (by omega)
  unfold sgB sg
  rw [if_neg h0, e0]
  by_cases h1 : isLt (B q) = true
  · have e1 : eoL B q = q + c := by rw [← hc]; unfold tk; rw [if_pos h1]
    rw [if_pos (srt_1.mpr h1), if_pos h1, e1]
    exact wC_cg hcg
  · rw [if_neg (fun z => h1 (srt_1.mp z)), if_neg h1]
    by_cases h2 : isDg (B q) = true
    · have e1 : eoD B q = q + c := by rw [← hc]; unfold tk; rw [if_neg h1, if_pos h2]
      rw [if_pos (srt_2.mpr h2), if_pos h2, e1, num_cg hcg]
      by_cases h4 : 4 < c
      · rw [if_pos h4, if_pos (by omega)]
      · rw [if_neg h4, if_neg (by omega), show q + c - q = c by omega]
    · rw [if_neg (fun z => h2 (srt_2.mp z)), if_neg h2]
theorem en_tk {q : Nat} (h1 : ¬ sg B q = -22) (h2 : ¬ sg B q = -23) : en B q = tk B q := by
  unfold en tk
  unfold sg at h1 h2
  by_cases b0 : B q < 0
  · rw [if_pos b0] at h1; exact absurd rfl h1
  · rw [if_neg b0]
    rw [if_neg b0] at h2
    by_cases b1 : isLt (B q) = true
    · rw [if_pos b1, if_pos b1]
    · rw [if_neg b1, if_neg b1]
      rw [if_neg b1] at h2
      by_cases b2 : isDg (B q) = true
      · rw [if_pos b2, if_pos b2]
      · rw [if_neg b2, if_neg b2]
        rw [if_neg b2] at h2
        rw [if_neg h2]
theorem sg_n (hR : RdOK tp n B) {q : Nat} (h : n ≤ q) : sg B q = -22 := by
  unfold sg
  rw [if_pos (by rw [hR.2.2 q h]; decide)]
/-- where token k begins -/
def ps (B : Nat → Int32) : Nat → Nat
  | 0 => skp B 0
  | k + 1 => nx B (ps B k)
def ScP (B sgn pl : Nat → Int32) (i : Nat) : Prop := ∀ k, k < i → sgn k = sg B (ps B k) ∧ pl k = nI (ps B k) ∧ ¬ sg B (ps B k) = -22 ∧ ¬ sg B (ps B k) = -23
def ScOK (B sgn pl : Nat → Int32) : Prop := ∃ K, K ≤ 160 ∧ ScP B sgn pl K ∧ sgn K = sg B (ps B K) ∧ pl K = nI (ps B K) ∧ (sg B (ps B K) = -22 ∨ sg B (ps B K) = -23)
theorem ScP.up {sgn pl : Nat → Int32} {i : Nat} (h : ScP B sgn pl i) (s p : Int32) : ScP B (upd sgn i s) (upd pl i p) i := fun k hk => by
  rw [pk_un (show k ≠ i by omega), pk_un (show k ≠ i by omega)]
  exact h k hk
theorem ScP.next {sgn pl : Nat → Int32} {i q : Nat} (h : ScP B sgn pl i) (hq : q = ps B i) (h1 : ¬ sg B q = -22) (h2 : ¬ sg B q = -23) : ScP B (upd sgn i (sg B q)) (upd pl i (nI q)) (i + 1) := fun k hk => by
  rcases Nat.lt_or_ge k i with z | z
  · exact h.up _ _ k z
  · rw [show k = i by omega, pk_us, pk_us, ← hq]
    exact ⟨rfl, rfl, h1, h2⟩
theorem ScP.fin {sgn pl : Nat → Int32} {i q : Nat} {s : Int32} (h : ScP B sgn pl i) (hi : i ≤ 160) (hq : q = ps B i) (hs : s = sg B q) (h1 : sg B q = -22 ∨ sg B q = -23) : ScOK B (upd sgn i s) (upd pl i (nI q)) :=
  ⟨i, hi, h.up _ _, by rw [pk_us, ← hq, hs], by rw [pk_us, ← hq], by rw [← hq]; exact h1⟩
end RD
theorem bb_loop {tp B : Nat → Int32} {n : Nat} (hR : RdOK tp n B) : ∀ (k e : Nat), e ≤ n → n + 1 ≤ e + k → P0 1 0 0 mX4_behindBlanks (2, [some (.ref 0), some (.int (nI n)), none, some (.int (nI e))], [], [pI 160 tp]) (fun r h' => r = some (.int (nI (adv isBl B k e))) ∧ h' = [pI 160 tp])
  | 0, e, h1, h2 => absurd h2 (by omega)
  | k + 1, e, he, hf => by
    have hn := hR.1
    refine P0.b GX4_behindBlanks 3 (ob := []) (cf' := (if nI n ≤ nI e then 33 else 7, [some (.ref 0), some (.int (nI n)), none, some (.int (nI e))], [], [pI 160 tp])) rfl trivial ?_
    refine P0.if (fun h1 => ?_) (fun h1 => ?_)
    · refine P0.b GX4_behindBlanks 1 (ob := []) (cf' := (34, [some (.ref 0), some (.int (nI n)), none, some (.int (nI e))], [.int (nI e)], [pI 160 tp])) rfl trivial ?_
      exact P0.ri (by decide +kernel) rfl rfl ⟨congrArg (fun x => some (Value.int x)) (bb_out hR (by decide) he h1), rfl⟩
    · refine P0.b GX4_behindBlanks 2 (ob := []) (cf' := (9, [some (.ref 0), some (.int (nI n)), none, some (.int (nI e))], [.int (nI e), .ref 0], [pI 160 tp])) rfl trivial ?_
      refine P0.cr (io := [0]) (as := [.ref 0, .int (nI e)]) (rest := []) (hc := [pI 160 tp]) (hc1 := [pI 160 tp]) (r1 := some (.int (tp e))) (st' := [.int (tp e)]) (h' := [pI 160 tp]) (d0 := 0) GX5_at kX4_behindBlanks_9 rfl rfl (Nat.le_of_ble_eq_true rfl) (Nat.le_of_ble_eq_true rfl) rfl ⟨rfl, trivial⟩ (at_in (n := 160) (by decide) tp (k := e) (by have := rd_lt hR he h1; omega)) (Nat.zero_le _) rfl (Nat.le_of_ble_eq_true rfl) (Nat.le_of_ble_eq_true rfl) rfl rfl ?_
      refine P0.b GX4_behindBlanks 2 (ob := []) (cf' := (if tp e = 32 then 27 else 17, [some (.ref 0), some (.int (nI n)), none, some (.int (nI e))], [], [pI 160 tp])) rfl trivial ?_
      refine P0.if (fun h2 => ?_) (fun h2 => ?_)
      · refine P0.b GX4_behindBlanks 2 (ob := []) (cf' := (2, [some (.ref 0), some (.int (nI n)), none, some (.int ((nI e) + 1))], [], [pI 160 tp])) rfl trivial ?_
        rw [show (nI e) + 1 = nI (e + 1) from nI_add _ _]
        rw [bb_st hR he h1 (bl_y1 h2)]
        exact bb_loop hR k (e + 1) (rd_lt hR he h1) (by omega)
      · refine P0.b GX4_behindBlanks 2 (ob := []) (cf' := (19, [some (.ref 0), some (.int (nI n)), none, some (.int (nI e))], [.int (nI e), .ref 0], [pI 160 tp])) rfl trivial ?_
        refine P0.cr (io := [0]) (as := [.ref 0, .int (nI e)]) (rest := []) (hc := [pI 160 tp]) (hc1 := [pI 160 tp]) (r1 := some (.int (tp e))) (st' := [.int (tp e)]) (h' := [pI 160 tp]) (d0 := 0) GX5_at kX4_behindBlanks_19 rfl rfl (Nat.le_of_ble_eq_true rfl) (Nat.le_of_ble_eq_true rfl) rfl ⟨rfl, trivial⟩ (at_in (n := 160) (by decide) tp (k := e) (by have := rd_lt hR he h1; omega)) (Nat.zero_le _) rfl (Nat.le_of_ble_eq_true rfl) (Nat.le_of_ble_eq_true rfl) rfl rfl ?_
        refine P0.b GX4_behindBlanks 2 (ob := []) (cf' := (if tp e = 10 then 27 else 33, [some (.ref 0), some (.int (nI n)), none, some (.int (nI e))], [], [pI 160 tp])) rfl trivial ?_
        refine P0.if (fun h3 => ?_) (fun h3 => ?_)
        · refine P0.b GX4_behindBlanks 2 (ob := []) (cf' := (2, [some (.ref 0), some (.int (nI n)), none, some (.int ((nI e) + 1))], [], [pI 160 tp])) rfl trivial ?_
          rw [show (nI e) + 1 = nI (e + 1) from nI_add _ _]
          rw [bb_st hR he h1 (bl_y2 h3)]
          exact bb_loop hR k (e + 1) (rd_lt hR he h1) (by omega)
        · refine P0.b GX4_behindBlanks 1 (ob := []) (cf' := (34, [some (.ref 0), some (.int (nI n)), none, some (.int (nI e))], [.int (nI e)], [pI 160 tp])) rfl trivial ?_
          exact P0.ri (by decide +kernel) rfl rfl ⟨congrArg (fun x => some (Value.int x)) (bb_no hR he h1 (bl_no h2 h3)), rfl⟩
theorem bb_q {tp B : Nat → Int32} {n : Nat} (hR : RdOK tp n B) {e q : Nat} (he : e ≤ n) (hq : q = skp B e) : P0 1 0 0 mX4_behindBlanks (0, ent 4 [.ref 0, .int (nI n), .int (nI e)], [], [pI 160 tp]) (fun r h' => r = some (.int (nI q)) ∧ h' = [pI 160 tp]) := by
  rw [hq]
  have hn := hR.1
  refine P0.b GX4_behindBlanks 2 (ob := []) (cf' := (2, [some (.ref 0), some (.int (nI n)), some (.int (nI e)), some (.int (nI e))], [], [pI 160 tp])) rfl trivial ?_
  refine P0.forget (ls' := [some (.ref 0), some (.int (nI n)), none, some (.int (nI e))]) ⟨.inr rfl, .inr rfl, .inl rfl, .inr rfl, trivial⟩ ?_
  exact bb_loop hR 200 e he (by omega)
theorem bt_loop_1 {tp B : Nat → Int32} {n : Nat} (hR : RdOK tp n B) : ∀ (k e : Nat), e ≤ n → n + 1 ≤ e + k → P0 1 0 0 mX4_behindToken (14, [some (.ref 0), some (.int (nI n)), none, some (.int 1), some (.int (nI e))], [], [pI 160 tp]) (fun r h' => r = some (.int (nI (adv isLt B k e))) ∧ h' = [pI 160 tp])
  | 0, e, h1, h2 => absurd h2 (by omega)
  | k + 1, e, he, hf => by
    have hn := hR.1
    refine P0.b GX4_behindToken 3 (ob := []) (cf' := (if (1 : Int32) = 3 then 44 else 19, [some (.ref 0), some (.int (nI n)), none, some (.int 1), some (.int (nI e))], [], [pI 160 tp])) rfl trivial ?_
    rw [if_neg (show ¬ ((1 : Int32) = 3) from by decide)]
    refine P0.b GX4_behindToken 3 (ob := []) (cf' := (if nI n ≤ nI e then 44 else 25, [some (.ref 0), some (.int (nI n)), none, some (.int 1), some (.int (nI e))], [], [pI 160 tp])) rfl trivial ?_
    refine P0.if (fun h1 => ?_) (fun h1 => ?_)
    · refine P0.b GX4_behindToken 1 (ob := []) (cf' := (46, [some (.ref 0), some (.int (nI n)), none, some (.int 1), some (.int (nI e))], [.int (nI e)], [pI 160 tp])) rfl trivial ?_
      exact P0.ri (by decide +kernel) rfl rfl ⟨congrArg (fun x => some (Value.int x)) (bb_out hR (by decide) he h1), rfl⟩
    · refine P0.b GX4_behindToken 2 (ob := []) (cf' := (28, [some (.ref 0), some (.int (nI n)), none, some (.int 1), some (.int (nI e))], [.int (nI e), .ref 0], [pI 160 tp])) rfl trivial ?_
      refine P0.cr (io := [0]) (as := [.ref 0, .int (nI e)]) (rest := []) (hc := [pI 160 tp]) (hc1 := [pI 160 tp]) (r1 := some (.int (tp e))) (st' := [.int (tp e)]) (h' := [pI 160 tp]) (d0 := 0) GX5_at kX4_behindToken_28 rfl rfl (Nat.le_of_ble_eq_true rfl) (Nat.le_of_ble_eq_true rfl) rfl ⟨rfl, trivial⟩ (at_in (n := 160) (by decide) tp (k := e) (by have := rd_lt hR he h1; omega)) (Nat.zero_le _) rfl (Nat.le_of_ble_eq_true rfl) (Nat.le_of_ble_eq_true rfl) rfl rfl ?_
      refine P0.cr (io := []) (as := [.int (tp e)]) (rest := []) (hc := []) (hc1 := []) (r1 := some (.int (srt (tp e)))) (st' := [.int (srt (tp e))]) (h' := [pI 160 tp]) (d0 := 0) GX4_sortOf kX4_behindToken_31 rfl rfl (Nat.le_of_ble_eq_true rfl) (Nat.le_of_ble_eq_true rfl) rfl trivial (sortOf_n (tp e)) (Nat.le_of_ble_eq_true rfl) rfl (Nat.le_of_ble_eq_true rfl) (Nat.le_of_ble_eq_true rfl) rfl rfl ?_
      refine P0.b GX4_behindToken 2 (ob := []) (cf' := (if srt (tp e) = 1 then 38 else 44, [some (.ref 0), some (.int (nI n)), none, some (.int 1), some (.int (nI e))], [], [pI 160 tp])) rfl trivial ?_
      refine P0.if (fun h2 => ?_) (fun h2 => ?_)
      · refine P0.b GX4_behindToken 2 (ob := []) (cf' := (14, [some (.ref 0), some (.int (nI n)), none, some (.int 1), some (.int ((nI e) + 1))], [], [pI 160 tp])) rfl trivial ?_
        rw [show (nI e) + 1 = nI (e + 1) from nI_add _ _]
        rw [bb_st hR he h1 (srt_1.mp h2)]
        exact bt_loop_1 hR k (e + 1) (rd_lt hR he h1) (by omega)
      · refine P0.b GX4_behindToken 1 (ob := []) (cf' := (46, [some (.ref 0), some (.int (nI n)), none, some (.int 1), some (.int (nI e))], [.int (nI e)], [pI 160 tp])) rfl trivial ?_
        exact P0.ri (by decide +kernel) rfl rfl ⟨congrArg (fun x => some (Value.int x)) (bb_no hR he h1 (Bool.eq_false_iff.mpr (fun z => h2 (srt_1.mpr z)))), rfl⟩
theorem bt_loop_2 {tp B : Nat → Int32} {n : Nat} (hR : RdOK tp n B) : ∀ (k e : Nat), e ≤ n → n + 1 ≤ e + k → P0 1 0 0 mX4_behindToken (14, [some (.ref 0), some (.int (nI n)), none, some (.int 2), some (.int (nI e))], [], [pI 160 tp]) (fun r h' => r = some (.int (nI (adv isDg B k e))) ∧ h' = [pI 160 tp])
  | 0, e, h1, h2 => absurd h2 (by omega)
  | k + 1, e, he, hf => by
    have hn := hR.1
    refine P0.b GX4_behindToken 3 (ob := []) (cf' := (if (2 : Int32) = 3 then 44 else 19, [some (.ref 0), some (.int (nI n)), none, some (.int 2), some (.int (nI e))], [], [pI 160 tp])) rfl trivial ?_
    rw [if_neg (show ¬ ((2 : Int32) = 3) from by decide)]
    refine P0.b GX4_behindToken 3 (ob := []) (cf' := (if nI n ≤ nI e then 44 else 25, [some (.ref 0), some (.int (nI n)), none, some (.int 2), some (.int (nI e))], [], [pI 160 tp])) rfl trivial ?_
    refine P0.if (fun h1 => ?_) (fun h1 => ?_)
    · refine P0.b GX4_behindToken 1 (ob := []) (cf' := (46, [some (.ref 0), some (.int (nI n)), none, some (.int 2), some (.int (nI e))], [.int (nI e)], [pI 160 tp])) rfl trivial ?_
      exact P0.ri (by decide +kernel) rfl rfl ⟨congrArg (fun x => some (Value.int x)) (bb_out hR (by decide) he h1), rfl⟩
    · refine P0.b GX4_behindToken 2 (ob := []) (cf' := (28, [some (.ref 0), some (.int (nI n)), none, some (.int 2), some (.int (nI e))], [.int (nI e), .ref 0], [pI 160 tp])) rfl trivial ?_
      refine P0.cr (io := [0]) (as := [.ref 0, .int (nI e)]) (rest := []) (hc := [pI 160 tp]) (hc1 := [pI 160 tp]) (r1 := some (.int (tp e))) (st' := [.int (tp e)]) (h' := [pI 160 tp]) (d0 := 0) GX5_at kX4_behindToken_28 rfl rfl (Nat.le_of_ble_eq_true rfl) (Nat.le_of_ble_eq_true rfl) rfl ⟨rfl, trivial⟩ (at_in (n := 160) (by decide) tp (k := e) (by have := rd_lt hR he h1; omega)) (Nat.zero_le _) rfl (Nat.le_of_ble_eq_true rfl) (Nat.le_of_ble_eq_true rfl) rfl rfl ?_
      refine P0.cr (io := []) (as := [.int (tp e)]) (rest := []) (hc := []) (hc1 := []) (r1 := some (.int (srt (tp e)))) (st' := [.int (srt (tp e))]) (h' := [pI 160 tp]) (d0 := 0) GX4_sortOf kX4_behindToken_31 rfl rfl (Nat.le_of_ble_eq_true rfl) (Nat.le_of_ble_eq_true rfl) rfl trivial (sortOf_n (tp e)) (Nat.le_of_ble_eq_true rfl) rfl (Nat.le_of_ble_eq_true rfl) (Nat.le_of_ble_eq_true rfl) rfl rfl ?_
      refine P0.b GX4_behindToken 2 (ob := []) (cf' := (if srt (tp e) = 2 then 38 else 44, [some (.ref 0), some (.int (nI n)), none, some (.int 2), some (.int (nI e))], [], [pI 160 tp])) rfl trivial ?_
      refine P0.if (fun h2 => ?_) (fun h2 => ?_)
      · refine P0.b GX4_behindToken 2 (ob := []) (cf' := (14, [some (.ref 0), some (.int (nI n)), none, some (.int 2), some (.int ((nI e) + 1))], [], [pI 160 tp])) rfl trivial ?_
        rw [show (nI e) + 1 = nI (e + 1) from nI_add _ _]
        rw [bb_st hR he h1 (srt_2.mp h2)]
        exact bt_loop_2 hR k (e + 1) (rd_lt hR he h1) (by omega)
      · refine P0.b GX4_behindToken 1 (ob := []) (cf' := (46, [some (.ref 0), some (.int (nI n)), none, some (.int 2), some (.int (nI e))], [.int (nI e)], [pI 160 tp])) rfl trivial ?_
        exact P0.ri (by decide +kernel) rfl rfl ⟨congrArg (fun x => some (Value.int x)) (bb_no hR he h1 (Bool.eq_false_iff.mpr (fun z => h2 (srt_2.mpr z)))), rfl⟩
theorem bt_1 {tp B : Nat → Int32} {n : Nat} (hR : RdOK tp n B) {q : Nat} (hq : q < n) (hs : srt (tp q) = 1) : P0 1 0 0 mX4_behindToken (0, ent 5 [.ref 0, .int (nI n), .int (nI q)], [], [pI 160 tp]) (fun r h' => r = some (.int (nI (adv isLt B 200 q))) ∧ h' = [pI 160 tp]) := by
  have hn := hR.1
  refine P0.b GX4_behindToken 2 (ob := []) (cf' := (2, [some (.ref 0), some (.int (nI n)), some (.int (nI q)), none, none], [.int (nI q), .ref 0], [pI 160 tp])) rfl trivial ?_
  refine P0.cr (io := [0]) (as := [.ref 0, .int (nI q)]) (rest := []) (hc := [pI 160 tp]) (hc1 := [pI 160 tp]) (r1 := some (.int (tp q))) (st' := [.int (tp q)]) (h' := [pI 160 tp]) (d0 := 0) GX5_at kX4_behindToken_2 rfl rfl (Nat.le_of_ble_eq_true rfl) (Nat.le_of_ble_eq_true rfl) rfl ⟨rfl, trivial⟩ (at_in (n := 160) (by decide) tp (k := q) (by omega)) (Nat.zero_le _) rfl (Nat.le_of_ble_eq_true rfl) (Nat.le_of_ble_eq_true rfl) rfl rfl ?_
  refine P0.cr (io := []) (as := [.int (tp q)]) (rest := []) (hc := []) (hc1 := []) (r1 := some (.int (srt (tp q)))) (st' := [.int (srt (tp q))]) (h' := [pI 160 tp]) (d0 := 0) GX4_sortOf kX4_behindToken_5 rfl rfl (Nat.le_of_ble_eq_true rfl) (Nat.le_of_ble_eq_true rfl) rfl trivial (sortOf_n (tp q)) (Nat.le_of_ble_eq_true rfl) rfl (Nat.le_of_ble_eq_true rfl) (Nat.le_of_ble_eq_true rfl) rfl rfl ?_
  refine P0.b GX4_behindToken 5 (ob := []) (cf' := (14, [some (.ref 0), some (.int (nI n)), some (.int (nI q)), some (.int (srt (tp q))), some (.int ((nI q) + 1))], [], [pI 160 tp])) rfl trivial ?_
  rw [show srt (tp q) = 1 from hs]
  rw [show (nI q) + 1 = nI (q + 1) from nI_add _ _]
  rw [adv_step (k := 199) (show isLt (B q) = true from by rw [← hR.2.1 q hq]; exact srt_1.mp hs)]
  refine P0.forget (ls' := [some (.ref 0), some (.int (nI n)), none, some (.int 1), some (.int (nI (q + 1)))]) ⟨.inr rfl, .inr rfl, .inl rfl, .inr rfl, .inr rfl, trivial⟩ ?_
  exact bt_loop_1 hR 199 (q + 1) (by omega) (by omega)
theorem bt_2 {tp B : Nat → Int32} {n : Nat} (hR : RdOK tp n B) {q : Nat} (hq : q < n) (hs : srt (tp q) = 2) : P0 1 0 0 mX4_behindToken (0, ent 5 [.ref 0, .int (nI n), .int (nI q)], [], [pI 160 tp]) (fun r h' => r = some (.int (nI (adv isDg B 200 q))) ∧ h' = [pI 160 tp]) := by
  have hn := hR.1
  refine P0.b GX4_behindToken 2 (ob := []) (cf' := (2, [some (.ref 0), some (.int (nI n)), some (.int (nI q)), none, none], [.int (nI q), .ref 0], [pI 160 tp])) rfl trivial ?_
  refine P0.cr (io := [0]) (as := [.ref 0, .int (nI q)]) (rest := []) (hc := [pI 160 tp]) (hc1 := [pI 160 tp]) (r1 := some (.int (tp q))) (st' := [.int (tp q)]) (h' := [pI 160 tp]) (d0 := 0) GX5_at kX4_behindToken_2 rfl rfl (Nat.le_of_ble_eq_true rfl) (Nat.le_of_ble_eq_true rfl) rfl ⟨rfl, trivial⟩ (at_in (n := 160) (by decide) tp (k := q) (by omega)) (Nat.zero_le _) rfl (Nat.le_of_ble_eq_true rfl) (Nat.le_of_ble_eq_true rfl) rfl rfl ?_
  refine P0.cr (io := []) (as := [.int (tp q)]) (rest := []) (hc := []) (hc1 := []) (r1 := some (.int (srt (tp q)))) (st' := [.int (srt (tp q))]) (h' := [pI 160 tp]) (d0 := 0) GX4_sortOf kX4_behindToken_5 rfl rfl (Nat.le_of_ble_eq_true rfl) (Nat.le_of_ble_eq_true rfl) rfl trivial (sortOf_n (tp q)) (Nat.le_of_ble_eq_true rfl) rfl (Nat.le_of_ble_eq_true rfl) (Nat.le_of_ble_eq_true rfl) rfl rfl ?_
  refine P0.b GX4_behindToken 5 (ob := []) (cf' := (14, [some (.ref 0), some (.int (nI n)), some (.int (nI q)), some (.int (srt (tp q))), some (.int ((nI q) + 1))], [], [pI 160 tp])) rfl trivial ?_
  rw [show srt (tp q) = 2 from hs]
  rw [show (nI q) + 1 = nI (q + 1) from nI_add _ _]
  rw [adv_step (k := 199) (show isDg (B q) = true from by rw [← hR.2.1 q hq]; exact srt_2.mp hs)]
  refine P0.forget (ls' := [some (.ref 0), some (.int (nI n)), none, some (.int 2), some (.int (nI (q + 1)))]) ⟨.inr rfl, .inr rfl, .inl rfl, .inr rfl, .inr rfl, trivial⟩ ?_
  exact bt_loop_2 hR 199 (q + 1) (by omega) (by omega)
theorem bt_3 {tp B : Nat → Int32} {n : Nat} (hR : RdOK tp n B) {q : Nat} (hq : q < n) (hs : srt (tp q) = 3) : P0 1 0 0 mX4_behindToken (0, ent 5 [.ref 0, .int (nI n), .int (nI q)], [], [pI 160 tp]) (fun r h' => r = some (.int (nI (q + 1))) ∧ h' = [pI 160 tp]) := by
  have hn := hR.1
  refine P0.b GX4_behindToken 2 (ob := []) (cf' := (2, [some (.ref 0), some (.int (nI n)), some (.int (nI q)), none, none], [.int (nI q), .ref 0], [pI 160 tp])) rfl trivial ?_
  refine P0.cr (io := [0]) (as := [.ref 0, .int (nI q)]) (rest := []) (hc := [pI 160 tp]) (hc1 := [pI 160 tp]) (r1 := some (.int (tp q))) (st' := [.int (tp q)]) (h' := [pI 160 tp]) (d0 := 0) GX5_at kX4_behindToken_2 rfl rfl (Nat.le_of_ble_eq_true rfl) (Nat.le_of_ble_eq_true rfl) rfl ⟨rfl, trivial⟩ (at_in (n := 160) (by decide) tp (k := q) (by omega)) (Nat.zero_le _) rfl (Nat.le_of_ble_eq_true rfl) (Nat.le_of_ble_eq_true rfl) rfl rfl ?_
  refine P0.cr (io := []) (as := [.int (tp q)]) (rest := []) (hc := []) (hc1 := []) (r1 := some (.int (srt (tp q)))) (st' := [.int (srt (tp q))]) (h' := [pI 160 tp]) (d0 := 0) GX4_sortOf kX4_behindToken_5 rfl rfl (Nat.le_of_ble_eq_true rfl) (Nat.le_of_ble_eq_true rfl) rfl trivial (sortOf_n (tp q)) (Nat.le_of_ble_eq_true rfl) rfl (Nat.le_of_ble_eq_true rfl) (Nat.le_of_ble_eq_true rfl) rfl rfl ?_
  refine P0.b GX4_behindToken 8 (ob := []) (cf' := (if srt (tp q) = 3 then 44 else 19, [some (.ref 0), some (.int (nI n)), some (.int (nI q)), some (.int (srt (tp q))), some (.int ((nI q) + 1))], [], [pI 160 tp])) rfl trivial ?_
  rw [show srt (tp q) = 3 from hs]
  rw [show (nI q) + 1 = nI (q + 1) from nI_add _ _]
  rw [if_pos (show ((3 : Int32) = 3) from by decide)]
  refine P0.b GX4_behindToken 1 (ob := []) (cf' := (46, [some (.ref 0), some (.int (nI n)), some (.int (nI q)), some (.int 3), some (.int (nI (q + 1)))], [.int (nI (q + 1))], [pI 160 tp])) rfl trivial ?_
  exact P0.ri (by decide +kernel) rfl rfl ⟨rfl, rfl⟩
theorem bt_out {tp B : Nat → Int32} {n : Nat} (hR : RdOK tp n B) {q : Nat} (hq : q = n) : P0 1 0 0 mX4_behindToken (0, ent 5 [.ref 0, .int (nI n), .int (nI q)], [], [pI 160 tp]) (fun r h' => r = some (.int (nI (q + 1))) ∧ h' = [pI 160 tp]) := by
  have hn := hR.1
  refine P0.b GX4_behindToken 2 (ob := []) (cf' := (2, [some (.ref 0), some (.int (nI n)), some (.int (nI q)), none, none], [.int (nI q), .ref 0], [pI 160 tp])) rfl trivial ?_
  refine P0.cr (io := [0]) (as := [.ref 0, .int (nI q)]) (rest := []) (hc := [pI 160 tp]) (hc1 := [pI 160 tp]) (r1 := some (.int (rowAt 160 tp (nI q)))) (st' := [.int (rowAt 160 tp (nI q))]) (h' := [pI 160 tp]) (d0 := 0) GX5_at kX4_behindToken_2 rfl rfl (Nat.le_of_ble_eq_true rfl) (Nat.le_of_ble_eq_true rfl) rfl ⟨rfl, trivial⟩ (e_X5_at (n := 160) (by decide) tp (nI q)) (Nat.zero_le _) rfl (Nat.le_of_ble_eq_true rfl) (Nat.le_of_ble_eq_true rfl) rfl rfl ?_
  refine P0.cr (io := []) (as := [.int (rowAt 160 tp (nI q))]) (rest := []) (hc := []) (hc1 := []) (r1 := some (.int (srt (rowAt 160 tp (nI q))))) (st' := [.int (srt (rowAt 160 tp (nI q)))]) (h' := [pI 160 tp]) (d0 := 0) GX4_sortOf kX4_behindToken_5 rfl rfl (Nat.le_of_ble_eq_true rfl) (Nat.le_of_ble_eq_true rfl) rfl trivial (sortOf_n (rowAt 160 tp (nI q))) (Nat.le_of_ble_eq_true rfl) rfl (Nat.le_of_ble_eq_true rfl) (Nat.le_of_ble_eq_true rfl) rfl rfl ?_
  refine P0.b GX4_behindToken 8 (ob := []) (cf' := (if srt (rowAt 160 tp (nI q)) = 3 then 44 else 19, [some (.ref 0), some (.int (nI n)), some (.int (nI q)), some (.int (srt (rowAt 160 tp (nI q)))), some (.int ((nI q) + 1))], [], [pI 160 tp])) rfl trivial ?_
  rw [show (nI q) + 1 = nI (q + 1) from nI_add _ _]
  refine P0.if (fun h1 => ?_) (fun h1 => ?_)
  · refine P0.b GX4_behindToken 1 (ob := []) (cf' := (46, [some (.ref 0), some (.int (nI n)), some (.int (nI q)), some (.int (srt (rowAt 160 tp (nI q)))), some (.int (nI (q + 1)))], [.int (nI (q + 1))], [pI 160 tp])) rfl trivial ?_
    exact P0.ri (by decide +kernel) rfl rfl ⟨rfl, rfl⟩
  · refine P0.b GX4_behindToken 3 (ob := []) (cf' := (if nI n ≤ nI (q + 1) then 44 else 25, [some (.ref 0), some (.int (nI n)), some (.int (nI q)), some (.int (srt (rowAt 160 tp (nI q)))), some (.int (nI (q + 1)))], [], [pI 160 tp])) rfl trivial ?_
    rw [if_pos (show nI n ≤ nI (q + 1) from nI_le (by omega) (by omega))]
    refine P0.b GX4_behindToken 1 (ob := []) (cf' := (46, [some (.ref 0), some (.int (nI n)), some (.int (nI q)), some (.int (srt (rowAt 160 tp (nI q)))), some (.int (nI (q + 1)))], [.int (nI (q + 1))], [pI 160 tp])) rfl trivial ?_
    exact P0.ri (by decide +kernel) rfl rfl ⟨rfl, rfl⟩
theorem bt_q {tp B : Nat → Int32} {n : Nat} (hR : RdOK tp n B) {q c : Nat} (hq : q ≤ n) (hc : tk B q = q + c) : P0 1 0 0 mX4_behindToken (0, ent 5 [.ref 0, .int (nI n), .int (nI q)], [], [pI 160 tp]) (fun r h' => r = some (.int (nI (q + c))) ∧ h' = [pI 160 tp]) := by
  rw [← hc]
  unfold tk
  rcases Nat.lt_or_ge q n with h | h
  · have e := hR.2.1 q h
    by_cases b1 : isLt (B q) = true
    · rw [if_pos b1]; exact bt_1 hR h (srt_1.mpr (by rw [e]; exact b1))
    · rw [if_neg b1]
      by_cases b2 : isDg (B q) = true
      · rw [if_pos b2]; exact bt_2 hR h (srt_2.mpr (by rw [e]; exact b2))
      · rw [if_neg b2]; exact bt_3 hR h (srt_3 (by rw [e]; exact b1) (by rw [e]; exact b2))
  · rw [hR.2.2 q h, if_neg (by decide), if_neg (by decide)]
    exact bt_out hR (by omega)
theorem sb_q {tp B : Nat → Int32} {n : Nat} (hR : RdOK tp n B) (hb : ∀ j, j < n → 0 ≤ B j) {q c : Nat} (hq : q < n) (hc : tk B q = q + c) (hc0 : 0 < c) : P0 7 0 0 mX4_signBetween (0, ent 4 [.ref 0, .int (nI q), .int (nI (q + c))], [], [pI 160 tp]) (fun r h' => r = some (.int (sg B q)) ∧ h' = [pI 160 tp]) := by
  have hn := hR.1
  have hcn : q + c ≤ n := hc ▸ tk_le hR hq
  rw [← sgB_sg hR hb hq hc hcn]
  exact signB_n (by omega) hc0
theorem sc_loop {tp B : Nat → Int32} {n : Nat} (hR : RdOK tp n B) (hb : ∀ j, j < n → 0 ≤ B j) {cd en : Nat → Int32} {po sz : Int32} : ∀ (f i e : Nat) (sgn pl : Nat → Int32), e ≤ n → n + 1 ≤ e + f → i ≤ e → skp B e = ps B i → ScP B sgn pl i → P0 8 0 0 mX4_scan (5, [some (.ref 0), some (.ref 5), some (.int (nI n)), some (.int (nI e)), some (.int (nI i)), none, none], [], [pO 3 [.ref 1, .ref 2, .ref 3, .ref 4, .int po, .int sz], pI 161 sgn, pI 161 pl, pI 160 cd, pI 3 en, pI 160 tp]) (fun r h' => ∃ x : (Nat → Int32) × (Nat → Int32), r = none ∧ h' = [pO 3 [.ref 1, .ref 2, .ref 3, .ref 4, .int po, .int sz], pI 161 x.1, pI 161 x.2, pI 160 cd, pI 3 en, pI 160 tp] ∧ ScOK B x.1 x.2)
  | 0, i, e, sgn, pl, h1, h2, _, _, _ => absurd h2 (by omega)
  | f + 1, i, e, sgn, pl, he, hf, hie, hps, hS => by
    have hn := hR.1
    obtain ⟨q, hq⟩ : ∃ q, q = skp B e := ⟨_, rfl⟩
    obtain ⟨c, hc0, hc⟩ := tk_gt B q
    have hqn : q ≤ n := by rw [hq]; exact adv_le (rd_out hR (by decide)) _ _ he
    have hqe : e ≤ q := by rw [hq]; exact adv_ge isBl B 200 e
    have hqp : q = ps B i := hq.trans hps
    refine P0.b GX4_scan 5 (ob := []) (cf' := (if Int32.ofNat 161 ≤ nI i then 94 else 15, [some (.ref 0), some (.ref 5), some (.int (nI n)), some (.int (nI e)), some (.int (nI i)), none, none], [], [pO 3 [.ref 1, .ref 2, .ref 3, .ref 4, .int po, .int sz], pI 161 sgn, pI 161 pl, pI 160 cd, pI 3 en, pI 160 tp])) rfl trivial ?_
    rw [if_neg (show ¬ (Int32.ofNat 161 ≤ nI i) from nI_ge (b := 161) (by omega) (by decide))]
    refine P0.b GX4_scan 3 (ob := []) (cf' := (18, [some (.ref 0), some (.ref 5), some (.int (nI n)), some (.int (nI e)), some (.int (nI i)), none, none], [.int (nI e), .int (nI n), .ref 5], [pO 3 [.ref 1, .ref 2, .ref 3, .ref 4, .int po, .int sz], pI 161 sgn, pI 161 pl, pI 160 cd, pI 3 en, pI 160 tp])) rfl trivial ?_
    refine P0.cr (io := [5]) (as := [.ref 0, .int (nI n), .int (nI e)]) (rest := []) (hc := [pI 160 tp]) (hc1 := [pI 160 tp]) (r1 := some (.int (nI q))) (st' := [.int (nI q)]) (h' := [pO 3 [.ref 1, .ref 2, .ref 3, .ref 4, .int po, .int sz], pI 161 sgn, pI 161 pl, pI 160 cd, pI 3 en, pI 160 tp]) (d0 := 1) GX4_behindBlanks kX4_scan_18 rfl rfl (Nat.le_of_ble_eq_true rfl) (Nat.le_of_ble_eq_true rfl) rfl ⟨rfl, trivial⟩ (bb_q hR he hq) (Nat.le_of_ble_eq_true rfl) rfl (Nat.le_of_ble_eq_true rfl) (Nat.le_of_ble_eq_true rfl) rfl rfl ?_
    refine P0.b GX4_scan 4 (ob := []) (cf' := (25, [some (.ref 0), some (.ref 5), some (.int (nI n)), some (.int (nI q)), some (.int (nI i)), none, none], [.int (nI q), .int (nI n), .ref 5], [pO 3 [.ref 1, .ref 2, .ref 3, .ref 4, .int po, .int sz], pI 161 sgn, pI 161 pl, pI 160 cd, pI 3 en, pI 160 tp])) rfl trivial ?_
    refine P0.cr (io := [5]) (as := [.ref 0, .int (nI n), .int (nI q)]) (rest := []) (hc := [pI 160 tp]) (hc1 := [pI 160 tp]) (r1 := some (.int (nI (q + c)))) (st' := [.int (nI (q + c))]) (h' := [pO 3 [.ref 1, .ref 2, .ref 3, .ref 4, .int po, .int sz], pI 161 sgn, pI 161 pl, pI 160 cd, pI 3 en, pI 160 tp]) (d0 := 1) GX4_behindToken kX4_scan_25 rfl rfl (Nat.le_of_ble_eq_true rfl) (Nat.le_of_ble_eq_true rfl) rfl ⟨rfl, trivial⟩ (bt_q hR hqn hc) (Nat.le_of_ble_eq_true rfl) rfl (Nat.le_of_ble_eq_true rfl) (Nat.le_of_ble_eq_true rfl) rfl rfl ?_
    refine P0.b GX4_scan 4 (ob := []) (cf' := (if nI n ≤ nI q then 45 else 35, [some (.ref 0), some (.ref 5), some (.int (nI n)), some (.int (nI q)), some (.int (nI i)), some (.int (nI (q + c))), none], [], [pO 3 [.ref 1, .ref 2, .ref 3, .ref 4, .int po, .int sz], pI 161 sgn, pI 161 pl, pI 160 cd, pI 3 en, pI 160 tp])) rfl trivial ?_
    refine P0.if (fun h1 => ?_) (fun h1 => ?_)
    · refine P0.b GX4_scan 6 (ob := []) (cf' := (57, [some (.ref 0), some (.ref 5), some (.int (nI n)), some (.int (nI q)), some (.int (nI i)), some (.int (nI (q + c))), some (.int (-22))], [.int (-22), .int (nI i), .ref 1], [pO 3 [.ref 1, .ref 2, .ref 3, .ref 4, .int po, .int sz], pI 161 sgn, pI 161 pl, pI 160 cd, pI 3 en, pI 160 tp])) rfl trivial ?_
      refine P0.cr (io := [1]) (as := [.ref 0, .int (nI i), .int (-22)]) (rest := []) (hc := [pI 161 sgn]) (hc1 := [pI 161 (upd sgn i (-22))]) (r1 := none) (st' := []) (h' := [pO 3 [.ref 1, .ref 2, .ref 3, .ref 4, .int po, .int sz], pI 161 (upd sgn i (-22)), pI 161 pl, pI 160 cd, pI 3 en, pI 160 tp]) (d0 := 0) GX5_put kX4_scan_57 rfl rfl (Nat.le_of_ble_eq_true rfl) (Nat.le_of_ble_eq_true rfl) rfl ⟨rfl, trivial⟩ (put_in (n := 161) (by decide) sgn (k := i) (by omega) (-22)) (Nat.zero_le _) rfl (Nat.le_of_ble_eq_true rfl) (Nat.le_of_ble_eq_true rfl) rfl rfl ?_
      refine P0.b GX4_scan 4 (ob := []) (cf' := (67, [some (.ref 0), some (.ref 5), some (.int (nI n)), some (.int (nI q)), some (.int (nI i)), some (.int (nI (q + c))), some (.int (-22))], [.int (nI q), .int (nI i), .ref 2], [pO 3 [.ref 1, .ref 2, .ref 3, .ref 4, .int po, .int sz], pI 161 (upd sgn i (-22)), pI 161 pl, pI 160 cd, pI 3 en, pI 160 tp])) rfl trivial ?_
      refine P0.cr (io := [2]) (as := [.ref 0, .int (nI i), .int (nI q)]) (rest := []) (hc := [pI 161 pl]) (hc1 := [pI 161 (upd pl i (nI q))]) (r1 := none) (st' := []) (h' := [pO 3 [.ref 1, .ref 2, .ref 3, .ref 4, .int po, .int sz], pI 161 (upd sgn i (-22)), pI 161 (upd pl i (nI q)), pI 160 cd, pI 3 en, pI 160 tp]) (d0 := 0) GX5_put kX4_scan_67 rfl rfl (Nat.le_of_ble_eq_true rfl) (Nat.le_of_ble_eq_true rfl) rfl ⟨rfl, trivial⟩ (put_in (n := 161) (by decide) pl (k := i) (by omega) (nI q)) (Nat.zero_le _) rfl (Nat.le_of_ble_eq_true rfl) (Nat.le_of_ble_eq_true rfl) rfl rfl ?_
      refine P0.b GX4_scan 3 (ob := []) (cf' := (if (-22 : Int32) = -22 then 84 else 77, [some (.ref 0), some (.ref 5), some (.int (nI n)), some (.int (nI q)), some (.int (nI i)), some (.int (nI (q + c))), some (.int (-22))], [], [pO 3 [.ref 1, .ref 2, .ref 3, .ref 4, .int po, .int sz], pI 161 (upd sgn i (-22)), pI 161 (upd pl i (nI q)), pI 160 cd, pI 3 en, pI 160 tp])) rfl trivial ?_
      rw [if_pos (show ((-22 : Int32) = -22) from by decide)]
      exact P0.rv (by decide +kernel) rfl ⟨(upd sgn i (-22), upd pl i (nI q)), rfl, rfl, hS.fin (by omega) hqp (sg_n hR (rd_ge hR hqn h1)).symm (.inl (sg_n hR (rd_ge hR hqn h1)))⟩
    · refine P0.b GX4_scan 3 (ob := []) (cf' := (39, [some (.ref 0), some (.ref 5), some (.int (nI n)), some (.int (nI q)), some (.int (nI i)), some (.int (nI (q + c))), none], [.int (nI (q + c)), .int (nI q), .ref 5], [pO 3 [.ref 1, .ref 2, .ref 3, .ref 4, .int po, .int sz], pI 161 sgn, pI 161 pl, pI 160 cd, pI 3 en, pI 160 tp])) rfl trivial ?_
      refine P0.cr (io := [5]) (as := [.ref 0, .int (nI q), .int (nI (q + c))]) (rest := []) (hc := [pI 160 tp]) (hc1 := [pI 160 tp]) (r1 := some (.int (sg B q))) (st' := [.int (sg B q)]) (h' := [pO 3 [.ref 1, .ref 2, .ref 3, .ref 4, .int po, .int sz], pI 161 sgn, pI 161 pl, pI 160 cd, pI 3 en, pI 160 tp]) (d0 := 7) GX4_signBetween kX4_scan_39 rfl rfl (Nat.le_of_ble_eq_true rfl) (Nat.le_of_ble_eq_true rfl) rfl ⟨rfl, trivial⟩ (sb_q hR hb (rd_lt hR hqn h1) hc hc0) (Nat.le_of_ble_eq_true rfl) rfl (Nat.le_of_ble_eq_true rfl) (Nat.le_of_ble_eq_true rfl) rfl rfl ?_
      refine P0.b GX4_scan 6 (ob := []) (cf' := (57, [some (.ref 0), some (.ref 5), some (.int (nI n)), some (.int (nI q)), some (.int (nI i)), some (.int (nI (q + c))), some (.int (sg B q))], [.int (sg B q), .int (nI i), .ref 1], [pO 3 [.ref 1, .ref 2, .ref 3, .ref 4, .int po, .int sz], pI 161 sgn, pI 161 pl, pI 160 cd, pI 3 en, pI 160 tp])) rfl trivial ?_
      refine P0.cr (io := [1]) (as := [.ref 0, .int (nI i), .int (sg B q)]) (rest := []) (hc := [pI 161 sgn]) (hc1 := [pI 161 (upd sgn i (sg B q))]) (r1 := none) (st' := []) (h' := [pO 3 [.ref 1, .ref 2, .ref 3, .ref 4, .int po, .int sz], pI 161 (upd sgn i (sg B q)), pI 161 pl, pI 160 cd, pI 3 en, pI 160 tp]) (d0 := 0) GX5_put kX4_scan_57 rfl rfl (Nat.le_of_ble_eq_true rfl) (Nat.le_of_ble_eq_true rfl) rfl ⟨rfl, trivial⟩ (put_in (n := 161) (by decide) sgn (k := i) (by omega) (sg B q)) (Nat.zero_le _) rfl (Nat.le_of_ble_eq_true rfl) (Nat.le_of_ble_eq_true rfl) rfl rfl ?_
      refine P0.b GX4_scan 4 (ob := []) (cf' := (67, [some (.ref 0), some (.ref 5), some (.int (nI n)), some (.int (nI q)), some (.int (nI i)), some (.int (nI (q + c))), some (.int (sg B q))], [.int (nI q), .int (nI i), .ref 2], [pO 3 [.ref 1, .ref 2, .ref 3, .ref 4, .int po, .int sz], pI 161 (upd sgn i (sg B q)), pI 161 pl, pI 160 cd, pI 3 en, pI 160 tp])) rfl trivial ?_
      refine P0.cr (io := [2]) (as := [.ref 0, .int (nI i), .int (nI q)]) (rest := []) (hc := [pI 161 pl]) (hc1 := [pI 161 (upd pl i (nI q))]) (r1 := none) (st' := []) (h' := [pO 3 [.ref 1, .ref 2, .ref 3, .ref 4, .int po, .int sz], pI 161 (upd sgn i (sg B q)), pI 161 (upd pl i (nI q)), pI 160 cd, pI 3 en, pI 160 tp]) (d0 := 0) GX5_put kX4_scan_67 rfl rfl (Nat.le_of_ble_eq_true rfl) (Nat.le_of_ble_eq_true rfl) rfl ⟨rfl, trivial⟩ (put_in (n := 161) (by decide) pl (k := i) (by omega) (nI q)) (Nat.zero_le _) rfl (Nat.le_of_ble_eq_true rfl) (Nat.le_of_ble_eq_true rfl) rfl rfl ?_
      refine P0.b GX4_scan 3 (ob := []) (cf' := (if sg B q = -22 then 84 else 77, [some (.ref 0), some (.ref 5), some (.int (nI n)), some (.int (nI q)), some (.int (nI i)), some (.int (nI (q + c))), some (.int (sg B q))], [], [pO 3 [.ref 1, .ref 2, .ref 3, .ref 4, .int po, .int sz], pI 161 (upd sgn i (sg B q)), pI 161 (upd pl i (nI q)), pI 160 cd, pI 3 en, pI 160 tp])) rfl trivial ?_
      refine P0.if (fun h2 => ?_) (fun h2 => ?_)
      · exact P0.rv (by decide +kernel) rfl ⟨(upd sgn i (sg B q), upd pl i (nI q)), rfl, rfl, hS.fin (by omega) hqp rfl (.inl h2)⟩
      · refine P0.b GX4_scan 3 (ob := []) (cf' := (if sg B q = -23 then 84 else 85, [some (.ref 0), some (.ref 5), some (.int (nI n)), some (.int (nI q)), some (.int (nI i)), some (.int (nI (q + c))), some (.int (sg B q))], [], [pO 3 [.ref 1, .ref 2, .ref 3, .ref 4, .int po, .int sz], pI 161 (upd sgn i (sg B q)), pI 161 (upd pl i (nI q)), pI 160 cd, pI 3 en, pI 160 tp])) rfl trivial ?_
        refine P0.if (fun h3 => ?_) (fun h3 => ?_)
        · exact P0.rv (by decide +kernel) rfl ⟨(upd sgn i (sg B q), upd pl i (nI q)), rfl, rfl, hS.fin (by omega) hqp rfl (.inr h3)⟩
        · refine P0.b GX4_scan 4 (ob := []) (cf' := (5, [some (.ref 0), some (.ref 5), some (.int (nI n)), some (.int (nI (q + c))), some (.int ((nI i) + 1)), some (.int (nI (q + c))), some (.int (sg B q))], [], [pO 3 [.ref 1, .ref 2, .ref 3, .ref 4, .int po, .int sz], pI 161 (upd sgn i (sg B q)), pI 161 (upd pl i (nI q)), pI 160 cd, pI 3 en, pI 160 tp])) rfl trivial ?_
          rw [show (nI i) + 1 = nI (i + 1) from nI_add _ _]
          have hlt := rd_lt hR hqn h1
          have hcn : q + c ≤ n := hc ▸ tk_le hR hlt
          refine P0.forget (ls' := [some (.ref 0), some (.ref 5), some (.int (nI n)), some (.int (nI (q + c))), some (.int (nI (i + 1))), none, none]) ⟨.inr rfl, .inr rfl, .inr rfl, .inr rfl, .inr rfl, .inl rfl, .inl rfl, trivial⟩ ?_
          exact sc_loop hR hb f (i + 1) (q + c) _ _ hcn (by omega) (by omega) (by rw [← hc, ← en_tk h2 h3, hqp]; rfl) (hS.next hqp h2 h3)
theorem scan_n {tp B : Nat → Int32} {n : Nat} (hR : RdOK tp n B) (hb : ∀ j, j < n → 0 ≤ B j) {cd en sgn pl : Nat → Int32} {po sz : Int32} : P0 8 0 0 mX4_scan (0, ent 7 [.ref 0, .ref 5, .int (nI n)], [], [pO 3 [.ref 1, .ref 2, .ref 3, .ref 4, .int po, .int sz], pI 161 sgn, pI 161 pl, pI 160 cd, pI 3 en, pI 160 tp]) (fun r h' => ∃ x : (Nat → Int32) × (Nat → Int32), r = none ∧ h' = [pO 3 [.ref 1, .ref 2, .ref 3, .ref 4, .int po, .int sz], pI 161 x.1, pI 161 x.2, pI 160 cd, pI 3 en, pI 160 tp] ∧ ScOK B x.1 x.2) := by
  have hn := hR.1
  refine P0.b GX4_scan 4 (ob := []) (cf' := (5, [some (.ref 0), some (.ref 5), some (.int (nI n)), some (.int 0), some (.int 0), none, none], [], [pO 3 [.ref 1, .ref 2, .ref 3, .ref 4, .int po, .int sz], pI 161 sgn, pI 161 pl, pI 160 cd, pI 3 en, pI 160 tp])) rfl trivial ?_
  exact sc_loop hR hb (n + 1) 0 0 sgn pl (by omega) (by omega) (by omega) rfl (fun k hk => absurd hk (Nat.not_lt_zero k))
