/-! ===== laid by program (wip/tools) ===== -/
/-- what may be told: NONE, 0 .. 5, by its number -/
def tlv (n : Nat) : Int32 := nI n - 1
theorem tlv_s (n : Nat) : tlv n + 1 = tlv (n + 1) := by
  unfold tlv
  rw [nI_pred, Int32.sub_add_cancel]
theorem tlv_lt : ∀ n, n < 7 → ¬ 5 < tlv n := by decide +kernel
theorem tlv_end : 5 < tlv 7 := by decide +kernel
theorem tlv_0 : tlv 0 = -1 := by decide +kernel
/-- is that said at a place, all of them agreeing -/
def tB (al sy : Nat → Int32) (who : Int32) (X d : Nat) (t : Int32) : Bool := fb al who (X / 4) (X % 4) d && decide (sy (X * 4 + d) = t)
section TB
variable {al sy : Nat → Int32} {who t : Int32} {X d : Nat}
theorem tB_a (h : ¬ al ((X / 4 * 4 + X % 4) * 4 + d) &&& who = who) : (0 : Int32) = if tB al sy who X d t = true then 1 else 0 := by
  have : tB al sy who X d t = false := by unfold tB fb; simp [h]
  rw [this]; rfl
theorem tB_b (h : ¬ sy (X * 4 + d) = t) : (0 : Int32) = if tB al sy who X d t = true then 1 else 0 := by
  have : tB al sy who X d t = false := by unfold tB; simp [h]
  rw [this]; rfl
theorem tB_c (h : al ((X / 4 * 4 + X % 4) * 4 + d) &&& who = who) (h2 : sy (X * 4 + d) = t) : (1 : Int32) = if tB al sy who X d t = true then 1 else 0 := by
  have : tB al sy who X d t = true := by unfold tB fb; simp [h, h2]
  rw [this]; rfl
end TB
/-- no more than so many may be told alike, so many steps being left -/
def bsm (T : Nat → Nat → Int32 → Bool) (B : Nat → Nat) (X : Nat) (t : Int32) (n : Nat) : Nat := it (fun d v => v + (if T X d t = true then B d else 0)) n 0
def Bn (T : Nat → Nat → Int32 → Bool) : Nat → Nat → Nat
  | 0, _ => 1
  | r + 1, l => it (fun n v => max v (it (fun d v => v + (if T ((5 - r) * 4 + l) d (tlv n) = true then Bn T r d else 0)) 4 0)) 7 0
theorem it_max_le {f : Nat → Nat} {B : Nat} (h : ∀ d, f d ≤ B) : ∀ n, it (fun d v => max v (f d)) n 0 ≤ B
  | 0 => Nat.zero_le _
  | n + 1 => Nat.max_le.mpr ⟨it_max_le h n, h n⟩
theorem Bn_le (T : Nat → Nat → Int32 → Bool) : ∀ r l, Bn T r l ≤ 4 ^ r
  | 0, _ => Nat.le_refl _
  | r + 1, l => it_max_le (fun n => by
      have := it_sum_le (f := fun d => if T ((5 - r) * 4 + l) d (tlv n) = true then Bn T r d else 0) (B := 4 ^ r) (fun d => by split; exact Bn_le T r d; exact Nat.zero_le _) 4
      rw [Nat.pow_succ, Nat.mul_comm (4 ^ r) 4]
      exact this) 7
def BP (T : Nat → Nat → Int32 → Bool) (m0 mo : Nat → Int32) (j : Nat) : Prop := (∀ x, j ≤ x → x < 28 → mo x = nI (Bn T (6 - x / 4) (x % 4))) ∧ ∀ x, 28 ≤ x → mo x = m0 x
def boV (T : Nat → Nat → Int32 → Bool) (m0 : Nat → Int32) : Nat → Int32 := fun x => if x < 28 then nI (Bn T (6 - x / 4) (x % 4)) else m0 x
theorem BP.fin {T : Nat → Nat → Int32 → Bool} {m0 mo : Nat → Int32} (h : BP T m0 mo 0) : mo = boV T m0 := by
  funext x
  unfold boV
  split
  · exact h.1 x (Nat.zero_le x) (by assumption)
  · exact h.2 x (by omega)
theorem oneV_BP {T : Nat → Nat → Int32 → Bool} {m0 : Nat → Int32} : BP T m0 (oneV m0) 24 := by
  have h := oneV_WP (F := fun _ _ _ => true) (w0 := m0)
  refine ⟨fun x h1 h2 => ?_, h.2⟩
  rw [h.1 x h1 h2, show 6 - x / 4 = 0 by omega]
  rfl
def bmx (T : Nat → Nat → Int32 → Bool) (X n : Nat) : Nat := it (fun n v => max v (bsm T (Bn T (5 - X / 4)) X (tlv n) 4)) n 0
theorem bsm_le {T : Nat → Nat → Int32 → Bool} {X : Nat} (t : Int32) : bsm T (Bn T (5 - X / 4)) X t 4 ≤ 4096 := by
  have := it_sum_le (f := fun d => if T X d t = true then Bn T (5 - X / 4) d else 0) (B := 4 ^ (5 - X / 4)) (fun d => by split; exact Bn_le T _ d; exact Nat.zero_le _) 4
  have h2 : 4 ^ (5 - X / 4) ≤ 4 ^ 5 := Nat.pow_le_pow_right (by decide) (by omega)
  unfold bsm
  omega
theorem bmx_le {T : Nat → Nat → Int32 → Bool} {X : Nat} (n : Nat) : bmx T X n ≤ 4096 := it_max_le (fun n => bsm_le (tlv n)) n
theorem BP.step {T : Nat → Nat → Int32 → Bool} {m0 mo : Nat → Int32} {i : Nat} (hi : i < 24) (h : BP T m0 mo (i + 1)) : BP T m0 (upd mo i (nI (bmx T i 7))) i := by
  refine ⟨fun x h1 h2 => ?_, fun x hx => by rw [pk_un (by omega)]; exact h.2 x hx⟩
  by_cases e : x = i
  · rw [e, pk_us, show 6 - i / 4 = (5 - i / 4) + 1 by omega]
    congr 1
    show it _ 7 0 = it _ 7 0
    refine it_congr 7 (fun n v _ => ?_)
    unfold bsm
    rw [show (5 - (5 - i / 4)) * 4 + i % 4 = i by omega]
  · rw [pk_un e]; exact h.1 x (by omega) h2
theorem bsm_s (T : Nat → Nat → Int32 → Bool) (B : Nat → Nat) (X : Nat) (t : Int32) (n : Nat) (h : T X n t = true) : nI (bsm T B X t n) + nI (B n) = nI (bsm T B X t (n + 1)) := by
  rw [nI_add]
  congr 1
  show _ = bsm T B X t n + (if T X n t = true then B n else 0)
  rw [if_pos h]
theorem bsm_n (T : Nat → Nat → Int32 → Bool) (B : Nat → Nat) (X : Nat) (t : Int32) (n : Nat) (h : ¬ T X n t = true) : bsm T B X t n = bsm T B X t (n + 1) := by
  show _ = bsm T B X t n + (if T X n t = true then B n else 0)
  rw [if_neg h]
  rfl
theorem mx_nI {a b : Nat} (ha : a ≤ 4096) (hb : b ≤ 4096) : (if nI a < nI b then nI b else nI a) = nI (max a b) := by
  by_cases h : a < b
  · rw [if_pos (nI_lt h (by omega)), Nat.max_eq_right (by omega)]
  · rw [if_neg (nI_nlt (by omega) (by omega)), Nat.max_eq_left (by omega)]
set_option maxHeartbeats 1000000 in
theorem isTold_n {al wy mo he : Nat → Int32} {fo : Int32} {sy : Nat → Int32} (who t : Int32) {X d : Nat} (hX : X < 24) (hd : d < 4) : P0 2 0 0 mX2_isTold (0, ent 6 [.ref 0, .int who, .ref 5, .int (nI X), .int (nI d), .int t], [], [pO 1 [.ref 1, .ref 2, .ref 3, .ref 4, .int fo], pI 96 al, pI 28 wy, pI 28 mo, pI 28 he, pI 96 sy]) (fun r h' => r = some (.int (if tB al sy who X d t = true then 1 else 0)) ∧ h' = [pO 1 [.ref 1, .ref 2, .ref 3, .ref 4, .int fo], pI 96 al, pI 28 wy, pI 28 mo, pI 28 he, pI 96 sy]) := by
  refine P0.b GX2_isTold 8 (ob := [¬ (4 : Int32) = 0, ¬ (4 : Int32) = 0]) (cf' := (8, [some (.ref 0), some (.int who), some (.ref 5), some (.int (nI X)), some (.int (nI d)), some (.int t)], [.int ((nI X) - (nI X) / 4 * 4), .int ((nI X) / 4), .int who, .ref 0], [pO 1 [.ref 1, .ref 2, .ref 3, .ref 4, .int fo], pI 96 al, pI 28 wy, pI 28 mo, pI 28 he, pI 96 sy])) rfl ⟨(by decide), (by decide), trivial⟩ ?_
  rw [show (nI X) - (nI X) / 4 * 4 = nI (X % 4) from pk_rem (by omega) (by decide) (by decide)]
  rw [show (nI X) / 4 = nI (X / 4) from pk_div (by omega) (by decide) (by decide)]
  refine P0.b GX2_isTold 1 (ob := []) (cf' := (10, [some (.ref 0), some (.int who), some (.ref 5), some (.int (nI X)), some (.int (nI d)), some (.int t)], [.int (nI d), .int (nI (X % 4)), .int (nI (X / 4)), .int who, .ref 0], [pO 1 [.ref 1, .ref 2, .ref 3, .ref 4, .int fo], pI 96 al, pI 28 wy, pI 28 mo, pI 28 he, pI 96 sy])) rfl trivial ?_
  refine P0.cr (io := [0, 1, 2, 3, 4]) (as := [.ref 0, .int who, .int (nI (X / 4)), .int (nI (X % 4)), .int (nI d)]) (rest := []) (hc := [pO 1 [.ref 1, .ref 2, .ref 3, .ref 4, .int fo], pI 96 al, pI 28 wy, pI 28 mo, pI 28 he]) (hc1 := [pO 1 [.ref 1, .ref 2, .ref 3, .ref 4, .int fo], pI 96 al, pI 28 wy, pI 28 mo, pI 28 he]) (r1 := some (.int (if al (((X / 4) * 4 + (X % 4)) * 4 + d) &&& who = who then 1 else 0))) (st' := [.int (if al (((X / 4) * 4 + (X % 4)) * 4 + d) &&& who = who then 1 else 0)]) (h' := [pO 1 [.ref 1, .ref 2, .ref 3, .ref 4, .int fo], pI 96 al, pI 28 wy, pI 28 mo, pI 28 he, pI 96 sy]) (d0 := 1) GX2_fits kX2_isTold_10 rfl ⟨_, _, rfl, rfl, .inl ⟨_, _, _, _, rfl, rfl⟩⟩ (Nat.le_of_ble_eq_true rfl) (Nat.le_of_ble_eq_true rfl) rfl ⟨rfl, rfl, rfl, rfl, rfl, trivial⟩ (fits_n who (s := X / 4) (l := X % 4) (d := d) (by omega) (by omega) (by omega)) (Nat.le_of_ble_eq_true rfl) rfl (Nat.le_of_ble_eq_true rfl) (Nat.le_of_ble_eq_true rfl) rfl rfl ?_
  refine P0.b GX2_isTold 1 (ob := []) (cf' := (if (if al (((X / 4) * 4 + (X % 4)) * 4 + d) &&& who = who then 1 else 0) = 0 then 35 else 16, [some (.ref 0), some (.int who), some (.ref 5), some (.int (nI X)), some (.int (nI d)), some (.int t)], [], [pO 1 [.ref 1, .ref 2, .ref 3, .ref 4, .int fo], pI 96 al, pI 28 wy, pI 28 mo, pI 28 he, pI 96 sy])) rfl trivial ?_
  refine P0.ifB (fun h1 => ?_) (fun h1 => ?_)
  · refine P0.b GX2_isTold 1 (ob := []) (cf' := (36, [some (.ref 0), some (.int who), some (.ref 5), some (.int (nI X)), some (.int (nI d)), some (.int t)], [.int 0], [pO 1 [.ref 1, .ref 2, .ref 3, .ref 4, .int fo], pI 96 al, pI 28 wy, pI 28 mo, pI 28 he, pI 96 sy])) rfl trivial ?_
    exact P0.ri (by decide +kernel) rfl (by rfl) ⟨congrArg (fun y => some (Value.int y)) (tB_a h1), rfl⟩
  · refine P0.b GX2_isTold 6 (ob := []) (cf' := (23, [some (.ref 0), some (.int who), some (.ref 5), some (.int (nI X)), some (.int (nI d)), some (.int t)], [.int (((nI X) * 4) + (nI d)), .ref 5], [pO 1 [.ref 1, .ref 2, .ref 3, .ref 4, .int fo], pI 96 al, pI 28 wy, pI 28 mo, pI 28 he, pI 96 sy])) rfl trivial ?_
    rw [show (nI X) * 4 = nI (X * 4) from pk_mul _ _]
    rw [show (nI (X * 4)) + (nI d) = nI ((X * 4) + d) from nI_add _ _]
    refine P0.cr (io := [5]) (as := [.ref 0, .int (nI ((X * 4) + d))]) (rest := []) (hc := [pI 96 sy]) (hc1 := [pI 96 sy]) (r1 := some (.int (sy ((X * 4) + d)))) (st' := [.int (sy ((X * 4) + d))]) (h' := [pO 1 [.ref 1, .ref 2, .ref 3, .ref 4, .int fo], pI 96 al, pI 28 wy, pI 28 mo, pI 28 he, pI 96 sy]) (d0 := 0) GX5_at kX2_isTold_23 rfl rfl (Nat.le_of_ble_eq_true rfl) (Nat.le_of_ble_eq_true rfl) rfl ⟨rfl, trivial⟩ (at_in (n := 96) (by decide) sy (k := ((X * 4) + d)) (by omega)) (Nat.zero_le _) rfl (Nat.le_of_ble_eq_true rfl) (Nat.le_of_ble_eq_true rfl) rfl rfl ?_
    refine P0.b GX2_isTold 2 (ob := []) (cf' := (if sy ((X * 4) + d) = t then 31 else 35, [some (.ref 0), some (.int who), some (.ref 5), some (.int (nI X)), some (.int (nI d)), some (.int t)], [], [pO 1 [.ref 1, .ref 2, .ref 3, .ref 4, .int fo], pI 96 al, pI 28 wy, pI 28 mo, pI 28 he, pI 96 sy])) rfl trivial ?_
    refine P0.if (fun h2 => ?_) (fun h2 => ?_)
    · refine P0.b GX2_isTold 2 (ob := []) (cf' := (36, [some (.ref 0), some (.int who), some (.ref 5), some (.int (nI X)), some (.int (nI d)), some (.int t)], [.int 1], [pO 1 [.ref 1, .ref 2, .ref 3, .ref 4, .int fo], pI 96 al, pI 28 wy, pI 28 mo, pI 28 he, pI 96 sy])) rfl trivial ?_
      exact P0.ri (by decide +kernel) rfl (by rfl) ⟨congrArg (fun y => some (Value.int y)) (tB_c h1 h2), rfl⟩
    · refine P0.b GX2_isTold 1 (ob := []) (cf' := (36, [some (.ref 0), some (.int who), some (.ref 5), some (.int (nI X)), some (.int (nI d)), some (.int t)], [.int 0], [pO 1 [.ref 1, .ref 2, .ref 3, .ref 4, .int fo], pI 96 al, pI 28 wy, pI 28 mo, pI 28 he, pI 96 sy])) rfl trivial ?_
      exact P0.ri (by decide +kernel) rfl (by rfl) ⟨congrArg (fun y => some (Value.int y)) (tB_b h2), rfl⟩
set_option maxHeartbeats 1000000 in
theorem boundBy_n {al wy mo he : Nat → Int32} {fo : Int32} {sy : Nat → Int32} {m0 : Nat → Int32} (who t : Int32) {X j : Nat} (hX : X < 24) (hj : j ≤ (X / 4 + 1) * 4) (hP : BP (tB al sy who) m0 mo j) : P0 3 0 0 mX2_boundBy (0, ent 7 [.ref 0, .int who, .ref 5, .int (nI X), .int t], [], [pO 1 [.ref 1, .ref 2, .ref 3, .ref 4, .int fo], pI 96 al, pI 28 wy, pI 28 mo, pI 28 he, pI 96 sy]) (fun r h' => r = some (.int (nI (bsm (tB al sy who) (Bn (tB al sy who) (5 - X / 4)) X t 4))) ∧ h' = [pO 1 [.ref 1, .ref 2, .ref 3, .ref 4, .int fo], pI 96 al, pI 28 wy, pI 28 mo, pI 28 he, pI 96 sy]) := by
  refine P0.b GX2_boundBy 4 (ob := []) (cf' := (6, [some (.ref 0), some (.int who), some (.ref 5), some (.int (nI X)), some (.int t), some (.int 0), some (.int 0)], [], [pO 1 [.ref 1, .ref 2, .ref 3, .ref 4, .int fo], pI 96 al, pI 28 wy, pI 28 mo, pI 28 he, pI 96 sy])) rfl trivial ?_
  refine P0.loopI (N := 4) (fun d v => v = nI (bsm (tB al sy who) (Bn (tB al sy who) (5 - X / 4)) X t d)) (fun x137 v137 => (6, [some (.ref 0), some (.int who), some (.ref 5), some (.int (nI X)), some (.int t), some (.int v137), some (.int x137)], [], [pO 1 [.ref 1, .ref 2, .ref 3, .ref 4, .int fo], pI 96 al, pI 28 wy, pI 28 mo, pI 28 he, pI 96 sy])) (fun i137 v137 hi137 hI137 hk137 => ?_) (fun v137 hI137 => ?_) 0 0 nI_0.symm nI_0.symm
  · show P0 _ _ _ _ (6, [some (.ref 0), some (.int who), some (.ref 5), some (.int (nI X)), some (.int t), some (.int v137), some (.int (nI i137))], [], [pO 1 [.ref 1, .ref 2, .ref 3, .ref 4, .int fo], pI 96 al, pI 28 wy, pI 28 mo, pI 28 he, pI 96 sy]) _
    refine P0.b GX2_boundBy 3 (ob := []) (cf' := (if 4 ≤ nI i137 then 54 else 12, [some (.ref 0), some (.int who), some (.ref 5), some (.int (nI X)), some (.int t), some (.int v137), some (.int (nI i137))], [], [pO 1 [.ref 1, .ref 2, .ref 3, .ref 4, .int fo], pI 96 al, pI 28 wy, pI 28 mo, pI 28 he, pI 96 sy])) rfl trivial ?_
    rw [if_neg (show ¬ (4 ≤ nI i137) from nI_ge hi137 (by decide))]
    refine P0.b GX2_boundBy 6 (ob := []) (cf' := (20, [some (.ref 0), some (.int who), some (.ref 5), some (.int (nI X)), some (.int t), some (.int v137), some (.int (nI i137))], [.int t, .int (nI i137), .int (nI X), .ref 5, .int who, .ref 0], [pO 1 [.ref 1, .ref 2, .ref 3, .ref 4, .int fo], pI 96 al, pI 28 wy, pI 28 mo, pI 28 he, pI 96 sy])) rfl trivial ?_
    refine P0.cd (d0 := 2) (as := [.ref 0, .int who, .ref 5, .int (nI X), .int (nI i137), .int t]) (rest := []) (r1 := some (.int (if tB al sy who X i137 t = true then 1 else 0))) (h1 := [pO 1 [.ref 1, .ref 2, .ref 3, .ref 4, .int fo], pI 96 al, pI 28 wy, pI 28 mo, pI 28 he, pI 96 sy]) (st' := [.int (if tB al sy who X i137 t = true then 1 else 0)]) GX2_isTold kX2_boundBy_20 rfl ⟨_, _, rfl, rfl, .inl ⟨_, _, _, _, rfl, rfl⟩⟩ (Nat.le_of_ble_eq_true rfl) (Nat.le_of_ble_eq_true rfl) (isTold_n who t (X := X) (d := i137) (by omega) (by omega)) (Nat.le_of_ble_eq_true rfl) rfl (Nat.le_of_ble_eq_true rfl) rfl ?_
    refine P0.b GX2_boundBy 1 (ob := []) (cf' := (if (if tB al sy who X i137 t = true then 1 else 0) = 0 then 48 else 26, [some (.ref 0), some (.int who), some (.ref 5), some (.int (nI X)), some (.int t), some (.int v137), some (.int (nI i137))], [], [pO 1 [.ref 1, .ref 2, .ref 3, .ref 4, .int fo], pI 96 al, pI 28 wy, pI 28 mo, pI 28 he, pI 96 sy])) rfl trivial ?_
    refine P0.ifB (fun h1 => ?_) (fun h1 => ?_)
    · refine P0.b GX2_boundBy 2 (ob := []) (cf' := (6, [some (.ref 0), some (.int who), some (.ref 5), some (.int (nI X)), some (.int t), some (.int v137), some (.int ((nI i137) + 1))], [], [pO 1 [.ref 1, .ref 2, .ref 3, .ref 4, .int fo], pI 96 al, pI 28 wy, pI 28 mo, pI 28 he, pI 96 sy])) rfl trivial ?_
      rw [show (nI i137) + 1 = nI (i137 + 1) from nI_add _ _]
      exact hk137 _ v137 rfl (by rw [hI137]; exact congrArg nI (bsm_n _ _ _ _ _ h1))
    · refine P0.b GX2_boundBy 8 (ob := [¬ (4 : Int32) = 0]) (cf' := (37, [some (.ref 0), some (.int who), some (.ref 5), some (.int (nI X)), some (.int t), some (.int v137), some (.int (nI i137))], [.int (((nI X) / 4) + 1), .ref 3, .int v137], [pO 1 [.ref 1, .ref 2, .ref 3, .ref 4, .int fo], pI 96 al, pI 28 wy, pI 28 mo, pI 28 he, pI 96 sy])) rfl ⟨(by decide), trivial⟩ ?_
      rw [show (nI X) / 4 = nI (X / 4) from pk_div (by omega) (by decide) (by decide)]
      rw [show (nI (X / 4)) + 1 = nI ((X / 4) + 1) from nI_add _ _]
      refine P0.b GX2_boundBy 1 (ob := []) (cf' := (39, [some (.ref 0), some (.int who), some (.ref 5), some (.int (nI X)), some (.int t), some (.int v137), some (.int (nI i137))], [.int (nI i137), .int (nI ((X / 4) + 1)), .ref 3, .int v137], [pO 1 [.ref 1, .ref 2, .ref 3, .ref 4, .int fo], pI 96 al, pI 28 wy, pI 28 mo, pI 28 he, pI 96 sy])) rfl trivial ?_
      refine P0.cr (io := []) (as := [.int (nI ((X / 4) + 1)), .int (nI i137)]) (rest := [.ref 3, .int v137]) (hc := []) (hc1 := []) (r1 := some (.int (nI (((X / 4) + 1) * 4 + i137)))) (st' := [.int (nI (((X / 4) + 1) * 4 + i137)), .ref 3, .int v137]) (h' := [pO 1 [.ref 1, .ref 2, .ref 3, .ref 4, .int fo], pI 96 al, pI 28 wy, pI 28 mo, pI 28 he, pI 96 sy]) (d0 := 0) GX2_spot kX2_boundBy_39 rfl rfl (Nat.le_of_ble_eq_true rfl) (Nat.le_of_ble_eq_true rfl) rfl trivial (spot2_n ((X / 4) + 1) i137) (Nat.le_of_ble_eq_true rfl) rfl (Nat.le_of_ble_eq_true rfl) (Nat.le_of_ble_eq_true rfl) rfl rfl ?_
      refine P0.cr (io := [3]) (as := [.ref 0, .int (nI (((X / 4) + 1) * 4 + i137))]) (rest := [.int v137]) (hc := [pI 28 mo]) (hc1 := [pI 28 mo]) (r1 := some (.int (mo (((X / 4) + 1) * 4 + i137)))) (st' := [.int (mo (((X / 4) + 1) * 4 + i137)), .int v137]) (h' := [pO 1 [.ref 1, .ref 2, .ref 3, .ref 4, .int fo], pI 96 al, pI 28 wy, pI 28 mo, pI 28 he, pI 96 sy]) (d0 := 0) GX5_at kX2_boundBy_42 rfl rfl (Nat.le_of_ble_eq_true rfl) (Nat.le_of_ble_eq_true rfl) rfl ⟨rfl, trivial⟩ (at_in (n := 28) (by decide) mo (k := (((X / 4) + 1) * 4 + i137)) (by omega)) (Nat.zero_le _) rfl (Nat.le_of_ble_eq_true rfl) (Nat.le_of_ble_eq_true rfl) rfl rfl ?_
      refine P0.b GX2_boundBy 4 (ob := []) (cf' := (6, [some (.ref 0), some (.int who), some (.ref 5), some (.int (nI X)), some (.int t), some (.int (v137 + (mo (((X / 4) + 1) * 4 + i137)))), some (.int ((nI i137) + 1))], [], [pO 1 [.ref 1, .ref 2, .ref 3, .ref 4, .int fo], pI 96 al, pI 28 wy, pI 28 mo, pI 28 he, pI 96 sy])) rfl trivial ?_
      rw [show (nI i137) + 1 = nI (i137 + 1) from nI_add _ _]
      exact hk137 _ (v137 + (mo (((X / 4) + 1) * 4 + i137))) rfl (by rw [hI137, show mo ((X / 4 + 1) * 4 + i137) = nI (Bn (tB al sy who) (5 - X / 4) i137) from by rw [hP.1 _ (by omega) (by omega), show ((X / 4 + 1) * 4 + i137) / 4 = X / 4 + 1 by omega, show ((X / 4 + 1) * 4 + i137) % 4 = i137 by omega, show 6 - (X / 4 + 1) = 5 - X / 4 by omega]]; exact bsm_s _ _ _ _ _ h1)
  · show P0 _ _ _ _ (6, [some (.ref 0), some (.int who), some (.ref 5), some (.int (nI X)), some (.int t), some (.int v137), some (.int 4)], [], [pO 1 [.ref 1, .ref 2, .ref 3, .ref 4, .int fo], pI 96 al, pI 28 wy, pI 28 mo, pI 28 he, pI 96 sy]) _
    refine P0.b GX2_boundBy 3 (ob := []) (cf' := (if (4 : Int32) ≤ 4 then 54 else 12, [some (.ref 0), some (.int who), some (.ref 5), some (.int (nI X)), some (.int t), some (.int v137), some (.int 4)], [], [pO 1 [.ref 1, .ref 2, .ref 3, .ref 4, .int fo], pI 96 al, pI 28 wy, pI 28 mo, pI 28 he, pI 96 sy])) rfl trivial ?_
    rw [if_pos (show ((4 : Int32) ≤ 4) from by decide)]
    refine P0.b GX2_boundBy 1 (ob := []) (cf' := (56, [some (.ref 0), some (.int who), some (.ref 5), some (.int (nI X)), some (.int t), some (.int v137), some (.int 4)], [.int v137], [pO 1 [.ref 1, .ref 2, .ref 3, .ref 4, .int fo], pI 96 al, pI 28 wy, pI 28 mo, pI 28 he, pI 96 sy])) rfl trivial ?_
    exact P0.ri (by decide +kernel) rfl rfl ⟨by rw [hI137], rfl⟩
set_option maxHeartbeats 1000000 in
theorem fillBounds_n {al wy mo he : Nat → Int32} {fo : Int32} {sy : Nat → Int32} (who : Int32) : P0 4 0 0 mX2_fillBounds (0, ent 6 [.ref 0, .int who, .ref 5], [], [pO 1 [.ref 1, .ref 2, .ref 3, .ref 4, .int fo], pI 96 al, pI 28 wy, pI 28 mo, pI 28 he, pI 96 sy]) (fun r h' => r = none ∧ h' = [pO 1 [.ref 1, .ref 2, .ref 3, .ref 4, .int fo], pI 96 al, pI 28 wy, pI 28 (boV (tB al sy who) mo), pI 28 he, pI 96 sy]) := by
  refine P0.b GX2_fillBounds 2 (ob := []) (cf' := (4, [some (.ref 0), some (.int who), some (.ref 5), none, none, none], [.ref 3], [pO 1 [.ref 1, .ref 2, .ref 3, .ref 4, .int fo], pI 96 al, pI 28 wy, pI 28 mo, pI 28 he, pI 96 sy])) rfl trivial ?_
  refine P0.cr (io := [3]) (as := [.ref 0]) (rest := []) (hc := [pI 28 mo]) (hc1 := [pI 28 (oneV mo)]) (r1 := none) (st' := []) (h' := [pO 1 [.ref 1, .ref 2, .ref 3, .ref 4, .int fo], pI 96 al, pI 28 wy, pI 28 (oneV mo), pI 28 he, pI 96 sy]) (d0 := 1) GX2_endWithOnes kX2_fillBounds_4 rfl rfl (Nat.le_of_ble_eq_true rfl) (Nat.le_of_ble_eq_true rfl) rfl ⟨rfl, trivial⟩ (ends_n mo) (Nat.le_of_ble_eq_true rfl) rfl (Nat.le_of_ble_eq_true rfl) (Nat.le_of_ble_eq_true rfl) rfl rfl ?_
  refine P0.b GX2_fillBounds 2 (ob := []) (cf' := (10, [some (.ref 0), some (.int who), some (.ref 5), none, none, none], [.int 0, .int 6], [pO 1 [.ref 1, .ref 2, .ref 3, .ref 4, .int fo], pI 96 al, pI 28 wy, pI 28 (oneV mo), pI 28 he, pI 96 sy])) rfl trivial ?_
  refine P0.cr (io := []) (as := [.int (nI 6), .int (nI 0)]) (rest := []) (hc := []) (hc1 := []) (r1 := some (.int (nI (6 * 4 + 0)))) (st' := [.int (nI (6 * 4 + 0))]) (h' := [pO 1 [.ref 1, .ref 2, .ref 3, .ref 4, .int fo], pI 96 al, pI 28 wy, pI 28 (oneV mo), pI 28 he, pI 96 sy]) (d0 := 0) GX2_spot kX2_fillBounds_10 rfl rfl (Nat.le_of_ble_eq_true rfl) (Nat.le_of_ble_eq_true rfl) rfl trivial (spot2_n 6 0) (Nat.le_of_ble_eq_true rfl) rfl (Nat.le_of_ble_eq_true rfl) (Nat.le_of_ble_eq_true rfl) rfl rfl ?_
  refine P0.b GX2_fillBounds 3 (ob := []) (cf' := (16, [some (.ref 0), some (.int who), some (.ref 5), some (.int ((nI (6 * 4 + 0)) - 1)), none, none], [], [pO 1 [.ref 1, .ref 2, .ref 3, .ref 4, .int fo], pI 96 al, pI 28 wy, pI 28 (oneV mo), pI 28 he, pI 96 sy])) rfl trivial ?_
  refine P0.eqcf (cf := (16, [some (.ref 0), some (.int who), some (.ref 5), some (.int (nI 23 - 0)), none, none], [], [pO 1 [.ref 1, .ref 2, .ref 3, .ref 4, .int fo], pI 96 al, pI 28 wy, pI 28 (oneV mo), pI 28 he, pI 96 sy])) (by rw [Int32.sub_zero]; try rfl) ?_
  refine P0.loopI (N := 23 + 1) (fun k v => BP (tB al sy who) mo v (24 - k)) (fun x138 v138 => (16, [some (.ref 0), some (.int who), some (.ref 5), some (.int (nI 23 - x138)), none, none], [], [pO 1 [.ref 1, .ref 2, .ref 3, .ref 4, .int fo], pI 96 al, pI 28 wy, pI 28 v138, pI 28 he, pI 96 sy])) (fun i138 v138 hi138 hI138 hk138 => ?_) (fun v138 hI138 => ?_) 0 (oneV mo) nI_0.symm oneV_BP
  · rw [show nI 23 - nI i138 = nI (23 - i138) from nI_sub (by omega)]
    show P0 _ _ _ _ (16, [some (.ref 0), some (.int who), some (.ref 5), some (.int (nI (23 - i138))), none, none], [], [pO 1 [.ref 1, .ref 2, .ref 3, .ref 4, .int fo], pI 96 al, pI 28 wy, pI 28 v138, pI 28 he, pI 96 sy]) _
    refine P0.b GX2_fillBounds 2 (ob := []) (cf' := (if nI (23 - i138) < 0 then 70 else 20, [some (.ref 0), some (.int who), some (.ref 5), some (.int (nI (23 - i138))), none, none], [], [pO 1 [.ref 1, .ref 2, .ref 3, .ref 4, .int fo], pI 96 al, pI 28 wy, pI 28 v138, pI 28 he, pI 96 sy])) rfl trivial ?_
    rw [if_neg (show ¬ (nI (23 - i138) < 0) from nI_pos (by omega))]
    refine P0.b GX2_fillBounds 4 (ob := []) (cf' := (26, [some (.ref 0), some (.int who), some (.ref 5), some (.int (nI (23 - i138))), some (.int 0), some (.int (-1))], [], [pO 1 [.ref 1, .ref 2, .ref 3, .ref 4, .int fo], pI 96 al, pI 28 wy, pI 28 v138, pI 28 he, pI 96 sy])) rfl trivial ?_
    rw [← tlv_0]
    show P0 _ _ _ _ (26, [some (.ref 0), some (.int who), some (.ref 5), some (.int (nI (23 - i138))), some (.int (nI (bmx (tB al sy who) (23 - i138) 0))), some (.int (tlv 0))], [], [pO 1 [.ref 1, .ref 2, .ref 3, .ref 4, .int fo], pI 96 al, pI 28 wy, pI 28 v138, pI 28 he, pI 96 sy]) _
    refine P0.loopJ (N := 7) (fun _ (_ : Unit) => True) (fun i _ => (26, [some (.ref 0), some (.int who), some (.ref 5), some (.int (nI (23 - i138))), some (.int (nI (bmx (tB al sy who) (23 - i138) i))), some (.int (tlv i))], [], [pO 1 [.ref 1, .ref 2, .ref 3, .ref 4, .int fo], pI 96 al, pI 28 wy, pI 28 v138, pI 28 he, pI 96 sy])) (fun i139 _ hi139 hI139 hk139 => ?_) (fun _ hI139 => ?_) () trivial
    · show P0 _ _ _ _ (26, [some (.ref 0), some (.int who), some (.ref 5), some (.int (nI (23 - i138))), some (.int (nI (bmx (tB al sy who) (23 - i138) i139))), some (.int (tlv i139))], [], [pO 1 [.ref 1, .ref 2, .ref 3, .ref 4, .int fo], pI 96 al, pI 28 wy, pI 28 v138, pI 28 he, pI 96 sy]) _
      refine P0.b GX2_fillBounds 3 (ob := []) (cf' := (if 5 < tlv i139 then 54 else 32, [some (.ref 0), some (.int who), some (.ref 5), some (.int (nI (23 - i138))), some (.int (nI (bmx (tB al sy who) (23 - i138) i139))), some (.int (tlv i139))], [], [pO 1 [.ref 1, .ref 2, .ref 3, .ref 4, .int fo], pI 96 al, pI 28 wy, pI 28 v138, pI 28 he, pI 96 sy])) rfl trivial ?_
      rw [if_neg (show ¬ (5 < tlv i139) from tlv_lt _ (by omega))]
      refine P0.b GX2_fillBounds 6 (ob := []) (cf' := (40, [some (.ref 0), some (.int who), some (.ref 5), some (.int (nI (23 - i138))), some (.int (nI (bmx (tB al sy who) (23 - i138) i139))), some (.int (tlv i139))], [.int (tlv i139), .int (nI (23 - i138)), .ref 5, .int who, .ref 0, .int (nI (bmx (tB al sy who) (23 - i138) i139))], [pO 1 [.ref 1, .ref 2, .ref 3, .ref 4, .int fo], pI 96 al, pI 28 wy, pI 28 v138, pI 28 he, pI 96 sy])) rfl trivial ?_
      refine P0.cd (d0 := 3) (as := [.ref 0, .int who, .ref 5, .int (nI (23 - i138)), .int (tlv i139)]) (rest := [.int (nI (bmx (tB al sy who) (23 - i138) i139))]) (r1 := some (.int (nI (bsm (tB al sy who) (Bn (tB al sy who) (5 - (23 - i138) / 4)) (23 - i138) (tlv i139) 4)))) (h1 := [pO 1 [.ref 1, .ref 2, .ref 3, .ref 4, .int fo], pI 96 al, pI 28 wy, pI 28 v138, pI 28 he, pI 96 sy]) (st' := [.int (nI (bsm (tB al sy who) (Bn (tB al sy who) (5 - (23 - i138) / 4)) (23 - i138) (tlv i139) 4)), .int (nI (bmx (tB al sy who) (23 - i138) i139))]) GX2_boundBy kX2_fillBounds_40 rfl ⟨_, _, rfl, rfl, .inl ⟨_, _, _, _, rfl, rfl⟩⟩ (Nat.le_of_ble_eq_true rfl) (Nat.le_of_ble_eq_true rfl) (boundBy_n (m0 := mo) who (tlv i139) (X := 23 - i138) (by omega) (j := 24 - i138) (by omega) hI138) (Nat.le_of_ble_eq_true rfl) rfl (Nat.le_of_ble_eq_true rfl) rfl ?_
      refine P0.b GX2_fillBounds 4 (ob := []) (cf' := (26, [some (.ref 0), some (.int who), some (.ref 5), some (.int (nI (23 - i138))), some (.int (if nI (bmx (tB al sy who) (23 - i138) i139) < nI (bsm (tB al sy who) (Bn (tB al sy who) (5 - (23 - i138) / 4)) (23 - i138) (tlv i139) 4) then nI (bsm (tB al sy who) (Bn (tB al sy who) (5 - (23 - i138) / 4)) (23 - i138) (tlv i139) 4) else nI (bmx (tB al sy who) (23 - i138) i139))), some (.int ((tlv i139) + 1))], [], [pO 1 [.ref 1, .ref 2, .ref 3, .ref 4, .int fo], pI 96 al, pI 28 wy, pI 28 v138, pI 28 he, pI 96 sy])) rfl trivial ?_
      rw [show (if nI (bmx (tB al sy who) (23 - i138) i139) < nI (bsm (tB al sy who) (Bn (tB al sy who) (5 - (23 - i138) / 4)) (23 - i138) (tlv i139) 4) then nI (bsm (tB al sy who) (Bn (tB al sy who) (5 - (23 - i138) / 4)) (23 - i138) (tlv i139) 4) else nI (bmx (tB al sy who) (23 - i138) i139)) = nI (bmx (tB al sy who) (23 - i138) (i139 + 1)) from mx_nI (bmx_le _) (bsm_le _)]
      rw [show (tlv i139) + 1 = tlv (i139 + 1) from tlv_s _]
      exact hk139 () trivial
    · show P0 _ _ _ _ (26, [some (.ref 0), some (.int who), some (.ref 5), some (.int (nI (23 - i138))), some (.int (nI (bmx (tB al sy who) (23 - i138) 7))), some (.int (tlv 7))], [], [pO 1 [.ref 1, .ref 2, .ref 3, .ref 4, .int fo], pI 96 al, pI 28 wy, pI 28 v138, pI 28 he, pI 96 sy]) _
      refine P0.b GX2_fillBounds 3 (ob := []) (cf' := (if 5 < tlv 7 then 54 else 32, [some (.ref 0), some (.int who), some (.ref 5), some (.int (nI (23 - i138))), some (.int (nI (bmx (tB al sy who) (23 - i138) 7))), some (.int (tlv 7))], [], [pO 1 [.ref 1, .ref 2, .ref 3, .ref 4, .int fo], pI 96 al, pI 28 wy, pI 28 v138, pI 28 he, pI 96 sy])) rfl trivial ?_
      rw [if_pos (show 5 < tlv 7 from tlv_end)]
      refine P0.b GX2_fillBounds 4 (ob := []) (cf' := (61, [some (.ref 0), some (.int who), some (.ref 5), some (.int (nI (23 - i138))), some (.int (nI (bmx (tB al sy who) (23 - i138) 7))), some (.int (tlv 7))], [.int (nI (bmx (tB al sy who) (23 - i138) 7)), .int (nI (23 - i138)), .ref 3], [pO 1 [.ref 1, .ref 2, .ref 3, .ref 4, .int fo], pI 96 al, pI 28 wy, pI 28 v138, pI 28 he, pI 96 sy])) rfl trivial ?_
      refine P0.cr (io := [3]) (as := [.ref 0, .int (nI (23 - i138)), .int (nI (bmx (tB al sy who) (23 - i138) 7))]) (rest := []) (hc := [pI 28 v138]) (hc1 := [pI 28 (upd v138 (23 - i138) (nI (bmx (tB al sy who) (23 - i138) 7)))]) (r1 := none) (st' := []) (h' := [pO 1 [.ref 1, .ref 2, .ref 3, .ref 4, .int fo], pI 96 al, pI 28 wy, pI 28 (upd v138 (23 - i138) (nI (bmx (tB al sy who) (23 - i138) 7))), pI 28 he, pI 96 sy]) (d0 := 0) GX5_put kX2_fillBounds_61 rfl rfl (Nat.le_of_ble_eq_true rfl) (Nat.le_of_ble_eq_true rfl) rfl ⟨rfl, trivial⟩ (put_in (n := 28) (by decide) v138 (k := (23 - i138)) (by omega) (nI (bmx (tB al sy who) (23 - i138) 7))) (Nat.zero_le _) rfl (Nat.le_of_ble_eq_true rfl) (Nat.le_of_ble_eq_true rfl) rfl rfl ?_
      refine P0.b GX2_fillBounds 2 (ob := []) (cf' := (16, [some (.ref 0), some (.int who), some (.ref 5), some (.int ((nI (23 - i138)) + (-1))), some (.int (nI (bmx (tB al sy who) (23 - i138) 7))), some (.int (tlv 7))], [], [pO 1 [.ref 1, .ref 2, .ref 3, .ref 4, .int fo], pI 96 al, pI 28 wy, pI 28 (upd v138 (23 - i138) (nI (bmx (tB al sy who) (23 - i138) 7))), pI 28 he, pI 96 sy])) rfl trivial ?_
      refine P0.forget (ls' := [some (.ref 0), some (.int who), some (.ref 5), some (.int ((nI (23 - i138)) + (-1))), none, none]) ⟨.inr rfl, .inr rfl, .inr rfl, .inr rfl, .inl rfl, .inl rfl, trivial⟩ ?_
      rw [show (nI (23 - i138)) + (-1) = nI 23 - nI (i138 + 1) from nI_decr hi138]
      exact hk138 (nI (i138 + 1)) (upd v138 (23 - i138) (nI (bmx (tB al sy who) (23 - i138) 7))) rfl (by rw [show 24 - (i138 + 1) = 23 - i138 by omega]; exact BP.step (by omega) (by rw [show 23 - i138 + 1 = 24 - i138 by omega]; exact hI138))
  · rw [show nI 23 - nI (23 + 1) = -1 from nI_out _]
    show P0 _ _ _ _ (16, [some (.ref 0), some (.int who), some (.ref 5), some (.int (-1)), none, none], [], [pO 1 [.ref 1, .ref 2, .ref 3, .ref 4, .int fo], pI 96 al, pI 28 wy, pI 28 v138, pI 28 he, pI 96 sy]) _
    rw [(show v138 = boV (tB al sy who) mo from BP.fin (by have h9 := hI138; rw [show 24 - (23 + 1) = 0 by omega] at h9; exact h9))]
    refine P0.b GX2_fillBounds 2 (ob := []) (cf' := (if (-1 : Int32) < 0 then 70 else 20, [some (.ref 0), some (.int who), some (.ref 5), some (.int (-1)), none, none], [], [pO 1 [.ref 1, .ref 2, .ref 3, .ref 4, .int fo], pI 96 al, pI 28 wy, pI 28 (boV (tB al sy who) mo), pI 28 he, pI 96 sy])) rfl trivial ?_
    rw [if_pos (show ((-1 : Int32) < 0) from by decide)]
    exact P0.rv (by decide +kernel) rfl ⟨rfl, rfl⟩
