/-! ===== laid by program (wip/tools) ===== -/
theorem rowAt_in {n : Nat} (hn : n < 2 ^ 31) (f : Nat → Int32) {k : Nat} (hk : k < n) : rowAt n f (nI k) = f k := by
  unfold rowAt
  rw [if_neg (nI_pos (by omega)), if_neg (show ¬ Int32.ofNat n ≤ nI k from nI_ge hk hn), nI_clamp (by omega)]
theorem rowPut_in {n : Nat} (hn : n < 2 ^ 31) (f : Nat → Int32) {k : Nat} (hk : k < n) (x : Int32) : rowPut n f (nI k) x = upd f k x := by
  unfold rowPut
  rw [if_neg (nI_pos (by omega)), if_neg (show ¬ Int32.ofNat n ≤ nI k from nI_ge hk hn), nI_clamp (by omega)]
theorem at_in {n : Nat} (hn : n < 2 ^ 31) (f : Nat → Int32) {k : Nat} (hk : k < n) : P0 0 0 0 mX5_at (0, ent 2 [.ref 0, .int (nI k)], [], [pI n f]) (fun r h' => r = some (.int (f k)) ∧ h' = [pI n f]) := by
  have h := e_X5_at hn f (nI k)
  rw [rowAt_in hn f hk] at h
  exact h
theorem put_in {n : Nat} (hn : n < 2 ^ 31) (f : Nat → Int32) {k : Nat} (hk : k < n) (x : Int32) : P0 0 0 0 mX5_put (0, ent 3 [.ref 0, .int (nI k), .int x], [], [pI n f]) (fun r h' => r = none ∧ h' = [pI n (upd f k x)]) := by
  have h := e_X5_put hn f (nI k) x
  rw [rowPut_in hn f hk] at h
  exact h
theorem place_n (s l d : Nat) : P0 0 0 0 mX5_place (0, ent 3 [.int (nI s), .int (nI l), .int (nI d)], [], []) (fun r h' => r = some (.int (nI ((s * 4 + l) * 4 + d))) ∧ h' = []) := by
  have h := e_X5_place (nI s) (nI l) (nI d)
  rw [show nI s * 4 = nI (s * 4) from pk_mul s 4, nI_add, show nI (s * 4 + l) * 4 = nI ((s * 4 + l) * 4) from pk_mul _ 4, nI_add] at h
  exact h
theorem spot2_n (s l : Nat) : P0 0 0 0 mX2_spot (0, ent 2 [.int (nI s), .int (nI l)], [], []) (fun r h' => r = some (.int (nI (s * 4 + l))) ∧ h' = []) := by
  have h := e_X2_spot (nI s) (nI l)
  rw [show nI s * 4 = nI (s * 4) from pk_mul s 4, nI_add] at h
  exact h
theorem fits_n {al wy mo he : Nat → Int32} {fo : Int32} (who : Int32) {s l d : Nat} (hs : s < 6) (hl : l < 4) (hd : d < 4) : P0 1 0 0 mX2_fits (0, ent 5 [.ref 0, .int who, .int (nI s), .int (nI l), .int (nI d)], [], [pO 1 [.ref 1, .ref 2, .ref 3, .ref 4, .int fo], pI 96 al, pI 28 wy, pI 28 mo, pI 28 he]) (fun r h' => r = some (.int (if al ((s * 4 + l) * 4 + d) &&& who = who then 1 else 0)) ∧ h' = [pO 1 [.ref 1, .ref 2, .ref 3, .ref 4, .int fo], pI 96 al, pI 28 wy, pI 28 mo, pI 28 he]) := by
  have h := e_X2_fits al wy mo he fo who (nI s) (nI l) (nI d)
  have e : fitsI al who (nI s) (nI l) (nI d) = if al ((s * 4 + l) * 4 + d) &&& who = who then 1 else 0 := by
    unfold fitsI
    rw [show nI s * 4 = nI (s * 4) from pk_mul s 4, nI_add, show nI (s * 4 + l) * 4 = nI ((s * 4 + l) * 4) from pk_mul _ 4, nI_add, rowAt_in (by decide) al (by omega)]
  rw [e] at h
  exact h
theorem ways_n {al wy mo he : Nat → Int32} {fo : Int32} (who : Int32) {s l d : Nat} (hs : s < 6) (hl : l < 4) (hd : d < 4) : P0 2 0 0 mX2_waysBy (0, ent 5 [.ref 0, .int who, .int (nI s), .int (nI l), .int (nI d)], [], [pO 1 [.ref 1, .ref 2, .ref 3, .ref 4, .int fo], pI 96 al, pI 28 wy, pI 28 mo, pI 28 he]) (fun r h' => r = some (.int (if al ((s * 4 + l) * 4 + d) &&& who = who then wy ((s + 1) * 4 + d) else 0)) ∧ h' = [pO 1 [.ref 1, .ref 2, .ref 3, .ref 4, .int fo], pI 96 al, pI 28 wy, pI 28 mo, pI 28 he]) := by
  have h := e_X2_waysBy al wy mo he fo who (nI s) (nI l) (nI d)
  have e : fitsI al who (nI s) (nI l) (nI d) = if al ((s * 4 + l) * 4 + d) &&& who = who then 1 else 0 := by
    unfold fitsI
    rw [show nI s * 4 = nI (s * 4) from pk_mul s 4, nI_add, show nI (s * 4 + l) * 4 = nI ((s * 4 + l) * 4) from pk_mul _ 4, nI_add, rowAt_in (by decide) al (by omega)]
  have e2 : waysI al wy who (nI s) (nI l) (nI d) = if al ((s * 4 + l) * 4 + d) &&& who = who then wy ((s + 1) * 4 + d) else 0 := by
    unfold waysI
    rw [e, nI_1, show nI (s + 1) * 4 = nI ((s + 1) * 4) from pk_mul _ 4, nI_add, rowAt_in (by decide) wy (by omega)]
    by_cases hc : al ((s * 4 + l) * 4 + d) &&& who = who
    · rw [if_pos hc, if_pos hc, if_neg (by decide)]
    · rw [if_neg hc, if_neg hc, if_pos rfl]
  rw [e2] at h
  exact h
/-- does a step's doing, with the one ahead, agree with all of them -/
def fb (al : Nat → Int32) (who : Int32) (s l d : Nat) : Bool := decide (al ((s * 4 + l) * 4 + d) &&& who = who)
/-- how many ways there are to live on, so many steps being left -/
def Wn (F : Nat → Nat → Nat → Bool) : Nat → Nat → Nat
  | 0, _ => 1
  | r + 1, l => it (fun d v => v + (if F (5 - r) l d = true then Wn F r d else 0)) 4 0
theorem it_sum_le {f : Nat → Nat} {B : Nat} (h : ∀ d, f d ≤ B) : ∀ n, it (fun d v => v + f d) n 0 ≤ n * B
  | 0 => by show 0 ≤ _; omega
  | n + 1 => by
    have h1 := it_sum_le h n
    have h2 := h n
    rw [it_succ, Nat.succ_mul]
    omega
theorem Wn_le (F : Nat → Nat → Nat → Bool) : ∀ r l, Wn F r l ≤ 4 ^ r
  | 0, _ => Nat.le_refl _
  | r + 1, l => by
    have := it_sum_le (f := fun d => if F (5 - r) l d = true then Wn F r d else 0) (B := 4 ^ r) (fun d => by split; exact Wn_le F r d; exact Nat.zero_le _) 4
    rw [Nat.pow_succ, Nat.mul_comm]
    exact this
theorem Wn_le6 (F : Nat → Nat → Nat → Bool) {r : Nat} (hr : r ≤ 6) (l : Nat) : Wn F r l ≤ 4096 := Nat.le_trans (Wn_le F r l) (Nat.pow_le_pow_right (n := 4) (by decide) hr)
/-- the ways are right from a place on -/
def WP (F : Nat → Nat → Nat → Bool) (w0 wy : Nat → Int32) (j : Nat) : Prop := (∀ x, j ≤ x → x < 28 → wy x = nI (Wn F (6 - x / 4) (x % 4))) ∧ ∀ x, 28 ≤ x → wy x = w0 x
def wyV (F : Nat → Nat → Nat → Bool) (w0 : Nat → Int32) : Nat → Int32 := fun x => if x < 28 then nI (Wn F (6 - x / 4) (x % 4)) else w0 x
theorem WP.fin {F : Nat → Nat → Nat → Bool} {w0 wy : Nat → Int32} (h : WP F w0 wy 0) : wy = wyV F w0 := by
  funext x
  unfold wyV
  split
  · exact h.1 x (Nat.zero_le x) (by assumption)
  · exact h.2 x (by omega)
theorem wyV_at {F : Nat → Nat → Nat → Bool} {w0 : Nat → Int32} {s l : Nat} (hs : s ≤ 6) (hl : l < 4) : wyV F w0 (s * 4 + l) = nI (Wn F (6 - s) l) := by
  unfold wyV
  rw [if_pos (by omega), show (s * 4 + l) / 4 = s by omega, show (s * 4 + l) % 4 = l by omega]
/-- four ones at the end -/
def oneV (f : Nat → Int32) : Nat → Int32 := it (fun d g => upd g (6 * 4 + d) 1) 4 f
theorem oneV_WP {F : Nat → Nat → Nat → Bool} {w0 : Nat → Int32} : WP F w0 (oneV w0) 24 := by
  have h : ∀ n, n ≤ 4 → (∀ x, 24 ≤ x → x < 24 + n → it (fun d g => upd g (6 * 4 + d) 1) n w0 x = 1) ∧ ∀ x, x < 24 ∨ 24 + n ≤ x → it (fun d g => upd g (6 * 4 + d) 1) n w0 x = w0 x := by
    intro n
    induction n with
    | zero => intro _; exact ⟨fun x h1 h2 => absurd h2 (by omega), fun x _ => rfl⟩
    | succ n ih =>
      intro hn
      obtain ⟨h1, h2⟩ := ih (by omega)
      refine ⟨fun x g1 g2 => ?_, fun x g => ?_⟩
      · rw [it_succ]
        by_cases e : x = 24 + n
        · rw [e]; exact pk_us
        · rw [pk_un (by omega)]; exact h1 x g1 (by omega)
      · rw [it_succ, pk_un (by omega)]; exact h2 x (by omega)
  obtain ⟨h1, h2⟩ := h 4 (Nat.le_refl _)
  refine ⟨fun x g1 g2 => ?_, fun x g => h2 x (by omega)⟩
  show it _ 4 w0 x = _
  rw [h1 x g1 (by omega), show x / 4 = 6 by omega]
  rfl
/-- what one way adds -/
def wadd (F : Nat → Nat → Nat → Bool) (s l d : Nat) : Nat := if F s l d = true then Wn F (5 - s) d else 0
def wsum (F : Nat → Nat → Nat → Bool) (s l n : Nat) : Nat := it (fun d v => v + wadd F s l d) n 0
theorem wsum_4 {F : Nat → Nat → Nat → Bool} {s l : Nat} (hs : s < 6) : wsum F s l 4 = Wn F (6 - s) l := by
  rw [show 6 - s = (5 - s) + 1 by omega]
  show _ = it _ 4 0
  unfold wsum
  refine it_congr 4 (fun d v _ => ?_)
  unfold wadd
  rw [show 5 - (5 - s) = s by omega]
theorem way_n {al wy w0 : Nat → Int32} {who : Int32} {s l d : Nat} (hs : s < 6) (hl : l < 4) (hd : d < 4) {j : Nat} (hj : j ≤ (s + 1) * 4) (h : WP (fb al who) w0 wy j) : (if al ((s * 4 + l) * 4 + d) &&& who = who then wy ((s + 1) * 4 + d) else 0) = nI (wadd (fb al who) s l d) := by
  unfold wadd
  by_cases e : al ((s * 4 + l) * 4 + d) &&& who = who
  · rw [if_pos e, if_pos (by unfold fb; exact decide_eq_true e), h.1 _ (by omega) (by omega), show ((s + 1) * 4 + d) / 4 = s + 1 by omega, show ((s + 1) * 4 + d) % 4 = d by omega, show 6 - (s + 1) = 5 - s by omega]
  · rw [if_neg e, if_neg (by unfold fb; simp [e])]
    exact nI_0.symm
theorem WP.step {F : Nat → Nat → Nat → Bool} {w0 wy : Nat → Int32} {i : Nat} (hi : i < 24) (h : WP F w0 wy (i + 1)) : WP F w0 (upd wy i (nI (wsum F (i / 4) (i % 4) 4))) i := by
  refine ⟨fun x h1 h2 => ?_, fun x hx => by rw [pk_un (by omega)]; exact h.2 x hx⟩
  by_cases e : x = i
  · rw [e, pk_us, wsum_4 (by omega)]
  · rw [pk_un e]; exact h.1 x (by omega) h2
theorem wsum_s (F : Nat → Nat → Nat → Bool) (s l n : Nat) : nI (wsum F s l n) + nI (wadd F s l n) = nI (wsum F s l (n + 1)) := nI_add _ _
set_option maxHeartbeats 1000000 in
theorem ends_n (f : Nat → Int32) : P0 1 0 0 mX2_endWithOnes (0, ent 2 [.ref 0], [], [pI 28 f]) (fun r h' => r = none ∧ h' = [pI 28 (oneV f)]) := by
  refine P0.b GX2_endWithOnes 2 (ob := []) (cf' := (2, [some (.ref 0), some (.int 0)], [], [pI 28 f])) rfl trivial ?_
  refine P0.loop (N := 4) (fun d g => upd g (6 * 4 + d) 1) f (fun x124 v124 => (2, [some (.ref 0), some (.int x124)], [], [pI 28 v124])) (fun i124 hi124 hk124 => ?_) ?_ 0 f nI_0.symm rfl
  · show P0 _ _ _ _ (2, [some (.ref 0), some (.int (nI i124))], [], [pI 28 (it (fun d g => upd g (6 * 4 + d) 1) i124 f)]) _
    refine P0.b GX2_endWithOnes 3 (ob := []) (cf' := (if 4 ≤ nI i124 then 24 else 7, [some (.ref 0), some (.int (nI i124))], [], [pI 28 (it (fun d g => upd g (6 * 4 + d) 1) i124 f)])) rfl trivial ?_
    rw [if_neg (show ¬ (4 ≤ nI i124) from nI_ge hi124 (by decide))]
    refine P0.b GX2_endWithOnes 3 (ob := []) (cf' := (11, [some (.ref 0), some (.int (nI i124))], [.int (nI i124), .int 6, .ref 0], [pI 28 (it (fun d g => upd g (6 * 4 + d) 1) i124 f)])) rfl trivial ?_
    refine P0.cr (io := []) (as := [.int (nI 6), .int (nI i124)]) (rest := [.ref 0]) (hc := []) (hc1 := []) (r1 := some (.int (nI (6 * 4 + i124)))) (st' := [.int (nI (6 * 4 + i124)), .ref 0]) (h' := [pI 28 (it (fun d g => upd g (6 * 4 + d) 1) i124 f)]) (d0 := 0) GX2_spot kX2_endWithOnes_11 rfl rfl (Nat.le_of_ble_eq_true rfl) (Nat.le_of_ble_eq_true rfl) rfl trivial (spot2_n 6 i124) (Nat.le_of_ble_eq_true rfl) rfl (Nat.le_of_ble_eq_true rfl) (Nat.le_of_ble_eq_true rfl) rfl rfl ?_
    refine P0.b GX2_endWithOnes 1 (ob := []) (cf' := (15, [some (.ref 0), some (.int (nI i124))], [.int 1, .int (nI (6 * 4 + i124)), .ref 0], [pI 28 (it (fun d g => upd g (6 * 4 + d) 1) i124 f)])) rfl trivial ?_
    refine P0.cr (io := [0]) (as := [.ref 0, .int (nI (6 * 4 + i124)), .int 1]) (rest := []) (hc := [pI 28 (it (fun d g => upd g (6 * 4 + d) 1) i124 f)]) (hc1 := [pI 28 (upd (it (fun d g => upd g (6 * 4 + d) 1) i124 f) (6 * 4 + i124) 1)]) (r1 := none) (st' := []) (h' := [pI 28 (upd (it (fun d g => upd g (6 * 4 + d) 1) i124 f) (6 * 4 + i124) 1)]) (d0 := 0) GX5_put kX2_endWithOnes_15 rfl rfl (Nat.le_of_ble_eq_true rfl) (Nat.le_of_ble_eq_true rfl) rfl ⟨rfl, trivial⟩ (put_in (n := 28) (by decide) (it (fun d g => upd g (6 * 4 + d) 1) i124 f) (k := (6 * 4 + i124)) (by omega) 1) (Nat.zero_le _) rfl (Nat.le_of_ble_eq_true rfl) (Nat.le_of_ble_eq_true rfl) rfl rfl ?_
    refine P0.b GX2_endWithOnes 2 (ob := []) (cf' := (2, [some (.ref 0), some (.int ((nI i124) + 1))], [], [pI 28 (upd (it (fun d g => upd g (6 * 4 + d) 1) i124 f) (6 * 4 + i124) 1)])) rfl trivial ?_
    rw [show (nI i124) + 1 = nI (i124 + 1) from nI_add _ _]
    exact hk124 _ (upd (it (fun d g => upd g (6 * 4 + d) 1) i124 f) (6 * 4 + i124) 1) rfl rfl
  · show P0 _ _ _ _ (2, [some (.ref 0), some (.int 4)], [], [pI 28 (it (fun d g => upd g (6 * 4 + d) 1) 4 f)]) _
    refine P0.b GX2_endWithOnes 3 (ob := []) (cf' := (if (4 : Int32) ≤ 4 then 24 else 7, [some (.ref 0), some (.int 4)], [], [pI 28 (it (fun d g => upd g (6 * 4 + d) 1) 4 f)])) rfl trivial ?_
    rw [if_pos (show ((4 : Int32) ≤ 4) from by decide)]
    exact P0.rv (by decide +kernel) rfl ⟨rfl, rfl⟩
set_option maxHeartbeats 1000000 in
theorem fitting_n {al wy mo he : Nat → Int32} {fo : Int32} (who : Int32) : P0 3 0 0 mX2_fitting (0, ent 5 [.ref 0, .int who], [], [pO 1 [.ref 1, .ref 2, .ref 3, .ref 4, .int fo], pI 96 al, pI 28 wy, pI 28 mo, pI 28 he]) (fun r h' => r = some (.int (nI (Wn (fb al who) 6 0))) ∧ h' = [pO 1 [.ref 1, .ref 2, .ref 3, .ref 4, .int fo], pI 96 al, pI 28 (wyV (fb al who) wy), pI 28 mo, pI 28 he]) := by
  refine P0.b GX2_fitting 2 (ob := []) (cf' := (4, [some (.ref 0), some (.int who), none, none, none], [.ref 2], [pO 1 [.ref 1, .ref 2, .ref 3, .ref 4, .int fo], pI 96 al, pI 28 wy, pI 28 mo, pI 28 he])) rfl trivial ?_
  refine P0.cr (io := [2]) (as := [.ref 0]) (rest := []) (hc := [pI 28 wy]) (hc1 := [pI 28 (oneV wy)]) (r1 := none) (st' := []) (h' := [pO 1 [.ref 1, .ref 2, .ref 3, .ref 4, .int fo], pI 96 al, pI 28 (oneV wy), pI 28 mo, pI 28 he]) (d0 := 1) GX2_endWithOnes kX2_fitting_4 rfl rfl (Nat.le_of_ble_eq_true rfl) (Nat.le_of_ble_eq_true rfl) rfl ⟨rfl, trivial⟩ (ends_n wy) (Nat.le_of_ble_eq_true rfl) rfl (Nat.le_of_ble_eq_true rfl) (Nat.le_of_ble_eq_true rfl) rfl rfl ?_
  refine P0.b GX2_fitting 2 (ob := []) (cf' := (10, [some (.ref 0), some (.int who), none, none, none], [.int 0, .int 6], [pO 1 [.ref 1, .ref 2, .ref 3, .ref 4, .int fo], pI 96 al, pI 28 (oneV wy), pI 28 mo, pI 28 he])) rfl trivial ?_
  refine P0.cr (io := []) (as := [.int (nI 6), .int (nI 0)]) (rest := []) (hc := []) (hc1 := []) (r1 := some (.int (nI (6 * 4 + 0)))) (st' := [.int (nI (6 * 4 + 0))]) (h' := [pO 1 [.ref 1, .ref 2, .ref 3, .ref 4, .int fo], pI 96 al, pI 28 (oneV wy), pI 28 mo, pI 28 he]) (d0 := 0) GX2_spot kX2_fitting_10 rfl rfl (Nat.le_of_ble_eq_true rfl) (Nat.le_of_ble_eq_true rfl) rfl trivial (spot2_n 6 0) (Nat.le_of_ble_eq_true rfl) rfl (Nat.le_of_ble_eq_true rfl) (Nat.le_of_ble_eq_true rfl) rfl rfl ?_
  refine P0.b GX2_fitting 3 (ob := []) (cf' := (16, [some (.ref 0), some (.int who), some (.int ((nI (6 * 4 + 0)) - 1)), none, none], [], [pO 1 [.ref 1, .ref 2, .ref 3, .ref 4, .int fo], pI 96 al, pI 28 (oneV wy), pI 28 mo, pI 28 he])) rfl trivial ?_
  refine P0.eqcf (cf := (16, [some (.ref 0), some (.int who), some (.int (nI 23 - 0)), none, none], [], [pO 1 [.ref 1, .ref 2, .ref 3, .ref 4, .int fo], pI 96 al, pI 28 (oneV wy), pI 28 mo, pI 28 he])) (by rw [Int32.sub_zero]; try rfl) ?_
  refine P0.loopI (N := 23 + 1) (fun k v => WP (fb al who) wy v (24 - k)) (fun x125 v125 => (16, [some (.ref 0), some (.int who), some (.int (nI 23 - x125)), none, none], [], [pO 1 [.ref 1, .ref 2, .ref 3, .ref 4, .int fo], pI 96 al, pI 28 v125, pI 28 mo, pI 28 he])) (fun i125 v125 hi125 hI125 hk125 => ?_) (fun v125 hI125 => ?_) 0 (oneV wy) nI_0.symm oneV_WP
  · rw [show nI 23 - nI i125 = nI (23 - i125) from nI_sub (by omega)]
    show P0 _ _ _ _ (16, [some (.ref 0), some (.int who), some (.int (nI (23 - i125))), none, none], [], [pO 1 [.ref 1, .ref 2, .ref 3, .ref 4, .int fo], pI 96 al, pI 28 v125, pI 28 mo, pI 28 he]) _
    refine P0.b GX2_fitting 2 (ob := []) (cf' := (if nI (23 - i125) < 0 then 68 else 20, [some (.ref 0), some (.int who), some (.int (nI (23 - i125))), none, none], [], [pO 1 [.ref 1, .ref 2, .ref 3, .ref 4, .int fo], pI 96 al, pI 28 v125, pI 28 mo, pI 28 he])) rfl trivial ?_
    rw [if_neg (show ¬ (nI (23 - i125) < 0) from nI_pos (by omega))]
    refine P0.b GX2_fitting 4 (ob := []) (cf' := (25, [some (.ref 0), some (.int who), some (.int (nI (23 - i125))), some (.int 0), some (.int 0)], [], [pO 1 [.ref 1, .ref 2, .ref 3, .ref 4, .int fo], pI 96 al, pI 28 v125, pI 28 mo, pI 28 he])) rfl trivial ?_
    refine P0.loopI (N := 4) (fun d v => v = nI (wsum (fb al who) ((23 - i125) / 4) ((23 - i125) % 4) d)) (fun x126 v126 => (25, [some (.ref 0), some (.int who), some (.int (nI (23 - i125))), some (.int v126), some (.int x126)], [], [pO 1 [.ref 1, .ref 2, .ref 3, .ref 4, .int fo], pI 96 al, pI 28 v125, pI 28 mo, pI 28 he])) (fun i126 v126 hi126 hI126 hk126 => ?_) (fun v126 hI126 => ?_) 0 0 nI_0.symm nI_0.symm
    · show P0 _ _ _ _ (25, [some (.ref 0), some (.int who), some (.int (nI (23 - i125))), some (.int v126), some (.int (nI i126))], [], [pO 1 [.ref 1, .ref 2, .ref 3, .ref 4, .int fo], pI 96 al, pI 28 v125, pI 28 mo, pI 28 he]) _
      refine P0.b GX2_fitting 3 (ob := []) (cf' := (if 4 ≤ nI i126 then 53 else 31, [some (.ref 0), some (.int who), some (.int (nI (23 - i125))), some (.int v126), some (.int (nI i126))], [], [pO 1 [.ref 1, .ref 2, .ref 3, .ref 4, .int fo], pI 96 al, pI 28 v125, pI 28 mo, pI 28 he])) rfl trivial ?_
      rw [if_neg (show ¬ (4 ≤ nI i126) from nI_ge hi126 (by decide))]
      refine P0.b GX2_fitting 8 (ob := [¬ (4 : Int32) = 0]) (cf' := (39, [some (.ref 0), some (.int who), some (.int (nI (23 - i125))), some (.int v126), some (.int (nI i126))], [.int 4, .int (nI (23 - i125)), .int ((nI (23 - i125)) / 4), .int who, .ref 0, .int v126], [pO 1 [.ref 1, .ref 2, .ref 3, .ref 4, .int fo], pI 96 al, pI 28 v125, pI 28 mo, pI 28 he])) rfl ⟨(by decide), trivial⟩ ?_
      rw [show (nI (23 - i125)) / 4 = nI ((23 - i125) / 4) from pk_div (by omega) (by decide) (by decide)]
      refine P0.b GX2_fitting 2 (ob := [¬ (4 : Int32) = 0]) (cf' := (42, [some (.ref 0), some (.int who), some (.int (nI (23 - i125))), some (.int v126), some (.int (nI i126))], [.int (nI i126), .int ((nI (23 - i125)) - (nI (23 - i125)) / 4 * 4), .int (nI ((23 - i125) / 4)), .int who, .ref 0, .int v126], [pO 1 [.ref 1, .ref 2, .ref 3, .ref 4, .int fo], pI 96 al, pI 28 v125, pI 28 mo, pI 28 he])) rfl ⟨(by decide), trivial⟩ ?_
      rw [show (nI (23 - i125)) - (nI (23 - i125)) / 4 * 4 = nI ((23 - i125) % 4) from pk_rem (by omega) (by decide) (by decide)]
      refine P0.cd (d0 := 2) (as := [.ref 0, .int who, .int (nI ((23 - i125) / 4)), .int (nI ((23 - i125) % 4)), .int (nI i126)]) (rest := [.int v126]) (r1 := some (.int (if al ((((23 - i125) / 4) * 4 + ((23 - i125) % 4)) * 4 + i126) &&& who = who then v125 ((((23 - i125) / 4) + 1) * 4 + i126) else 0))) (h1 := [pO 1 [.ref 1, .ref 2, .ref 3, .ref 4, .int fo], pI 96 al, pI 28 v125, pI 28 mo, pI 28 he]) (st' := [.int (if al ((((23 - i125) / 4) * 4 + ((23 - i125) % 4)) * 4 + i126) &&& who = who then v125 ((((23 - i125) / 4) + 1) * 4 + i126) else 0), .int v126]) GX2_waysBy kX2_fitting_42 rfl ⟨_, _, rfl, rfl, .inl ⟨_, _, _, _, rfl, rfl⟩⟩ (Nat.le_of_ble_eq_true rfl) (Nat.le_of_ble_eq_true rfl) (ways_n who (s := (23 - i125) / 4) (l := (23 - i125) % 4) (d := i126) (by omega) (by omega) (by omega)) (Nat.le_of_ble_eq_true rfl) rfl (Nat.le_of_ble_eq_true rfl) rfl ?_
      refine P0.b GX2_fitting 4 (ob := []) (cf' := (25, [some (.ref 0), some (.int who), some (.int (nI (23 - i125))), some (.int (v126 + (if al ((((23 - i125) / 4) * 4 + ((23 - i125) % 4)) * 4 + i126) &&& who = who then v125 ((((23 - i125) / 4) + 1) * 4 + i126) else 0))), some (.int ((nI i126) + 1))], [], [pO 1 [.ref 1, .ref 2, .ref 3, .ref 4, .int fo], pI 96 al, pI 28 v125, pI 28 mo, pI 28 he])) rfl trivial ?_
      rw [show (nI i126) + 1 = nI (i126 + 1) from nI_add _ _]
      exact hk126 _ (v126 + (if al ((((23 - i125) / 4) * 4 + ((23 - i125) % 4)) * 4 + i126) &&& who = who then v125 ((((23 - i125) / 4) + 1) * 4 + i126) else 0)) rfl (by rw [hI126]; refine Eq.trans ?_ (wsum_s (fb al who) _ _ _); congr 1; exact way_n (by omega) (by omega) (by omega) (by omega) hI125)
    · show P0 _ _ _ _ (25, [some (.ref 0), some (.int who), some (.int (nI (23 - i125))), some (.int v126), some (.int 4)], [], [pO 1 [.ref 1, .ref 2, .ref 3, .ref 4, .int fo], pI 96 al, pI 28 v125, pI 28 mo, pI 28 he]) _
      rw [hI126]
      refine P0.b GX2_fitting 3 (ob := []) (cf' := (if (4 : Int32) ≤ 4 then 53 else 31, [some (.ref 0), some (.int who), some (.int (nI (23 - i125))), some (.int (nI (wsum (fb al who) ((23 - i125) / 4) ((23 - i125) % 4) 4))), some (.int 4)], [], [pO 1 [.ref 1, .ref 2, .ref 3, .ref 4, .int fo], pI 96 al, pI 28 v125, pI 28 mo, pI 28 he])) rfl trivial ?_
      rw [if_pos (show ((4 : Int32) ≤ 4) from by decide)]
      refine P0.b GX2_fitting 4 (ob := []) (cf' := (59, [some (.ref 0), some (.int who), some (.int (nI (23 - i125))), some (.int (nI (wsum (fb al who) ((23 - i125) / 4) ((23 - i125) % 4) 4))), some (.int 4)], [.int (nI (wsum (fb al who) ((23 - i125) / 4) ((23 - i125) % 4) 4)), .int (nI (23 - i125)), .ref 2], [pO 1 [.ref 1, .ref 2, .ref 3, .ref 4, .int fo], pI 96 al, pI 28 v125, pI 28 mo, pI 28 he])) rfl trivial ?_
      refine P0.cr (io := [2]) (as := [.ref 0, .int (nI (23 - i125)), .int (nI (wsum (fb al who) ((23 - i125) / 4) ((23 - i125) % 4) 4))]) (rest := []) (hc := [pI 28 v125]) (hc1 := [pI 28 (upd v125 (23 - i125) (nI (wsum (fb al who) ((23 - i125) / 4) ((23 - i125) % 4) 4)))]) (r1 := none) (st' := []) (h' := [pO 1 [.ref 1, .ref 2, .ref 3, .ref 4, .int fo], pI 96 al, pI 28 (upd v125 (23 - i125) (nI (wsum (fb al who) ((23 - i125) / 4) ((23 - i125) % 4) 4))), pI 28 mo, pI 28 he]) (d0 := 0) GX5_put kX2_fitting_59 rfl rfl (Nat.le_of_ble_eq_true rfl) (Nat.le_of_ble_eq_true rfl) rfl ⟨rfl, trivial⟩ (put_in (n := 28) (by decide) v125 (k := (23 - i125)) (by omega) (nI (wsum (fb al who) ((23 - i125) / 4) ((23 - i125) % 4) 4))) (Nat.zero_le _) rfl (Nat.le_of_ble_eq_true rfl) (Nat.le_of_ble_eq_true rfl) rfl rfl ?_
      refine P0.b GX2_fitting 2 (ob := []) (cf' := (16, [some (.ref 0), some (.int who), some (.int ((nI (23 - i125)) + (-1))), some (.int (nI (wsum (fb al who) ((23 - i125) / 4) ((23 - i125) % 4) 4))), some (.int 4)], [], [pO 1 [.ref 1, .ref 2, .ref 3, .ref 4, .int fo], pI 96 al, pI 28 (upd v125 (23 - i125) (nI (wsum (fb al who) ((23 - i125) / 4) ((23 - i125) % 4) 4))), pI 28 mo, pI 28 he])) rfl trivial ?_
      refine P0.forget (ls' := [some (.ref 0), some (.int who), some (.int ((nI (23 - i125)) + (-1))), none, none]) ⟨.inr rfl, .inr rfl, .inr rfl, .inl rfl, .inl rfl, trivial⟩ ?_
      rw [show (nI (23 - i125)) + (-1) = nI 23 - nI (i125 + 1) from nI_decr hi125]
      exact hk125 (nI (i125 + 1)) (upd v125 (23 - i125) (nI (wsum (fb al who) ((23 - i125) / 4) ((23 - i125) % 4) 4))) rfl (by rw [show 24 - (i125 + 1) = 23 - i125 by omega]; exact WP.step (by omega) (by rw [show 23 - i125 + 1 = 24 - i125 by omega]; exact hI125))
  · rw [show nI 23 - nI (23 + 1) = -1 from nI_out _]
    show P0 _ _ _ _ (16, [some (.ref 0), some (.int who), some (.int (-1)), none, none], [], [pO 1 [.ref 1, .ref 2, .ref 3, .ref 4, .int fo], pI 96 al, pI 28 v125, pI 28 mo, pI 28 he]) _
    rw [(show v125 = wyV (fb al who) wy from WP.fin (by have h9 := hI125; rw [show 24 - (23 + 1) = 0 by omega] at h9; exact h9))]
    refine P0.b GX2_fitting 2 (ob := []) (cf' := (if (-1 : Int32) < 0 then 68 else 20, [some (.ref 0), some (.int who), some (.int (-1)), none, none], [], [pO 1 [.ref 1, .ref 2, .ref 3, .ref 4, .int fo], pI 96 al, pI 28 (wyV (fb al who) wy), pI 28 mo, pI 28 he])) rfl trivial ?_
    rw [if_pos (show ((-1 : Int32) < 0) from by decide)]
    refine P0.b GX2_fitting 4 (ob := []) (cf' := (74, [some (.ref 0), some (.int who), some (.int (-1)), none, none], [.int 0, .int 0, .ref 2], [pO 1 [.ref 1, .ref 2, .ref 3, .ref 4, .int fo], pI 96 al, pI 28 (wyV (fb al who) wy), pI 28 mo, pI 28 he])) rfl trivial ?_
    refine P0.cr (io := []) (as := [.int (nI 0), .int (nI 0)]) (rest := [.ref 2]) (hc := []) (hc1 := []) (r1 := some (.int (nI (0 * 4 + 0)))) (st' := [.int (nI (0 * 4 + 0)), .ref 2]) (h' := [pO 1 [.ref 1, .ref 2, .ref 3, .ref 4, .int fo], pI 96 al, pI 28 (wyV (fb al who) wy), pI 28 mo, pI 28 he]) (d0 := 0) GX2_spot kX2_fitting_74 rfl rfl (Nat.le_of_ble_eq_true rfl) (Nat.le_of_ble_eq_true rfl) rfl trivial (spot2_n 0 0) (Nat.le_of_ble_eq_true rfl) rfl (Nat.le_of_ble_eq_true rfl) (Nat.le_of_ble_eq_true rfl) rfl rfl ?_
    refine P0.cr (io := [2]) (as := [.ref 0, .int (nI (0 * 4 + 0))]) (rest := []) (hc := [pI 28 (wyV (fb al who) wy)]) (hc1 := [pI 28 (wyV (fb al who) wy)]) (r1 := some (.int ((wyV (fb al who) wy) (0 * 4 + 0)))) (st' := [.int ((wyV (fb al who) wy) (0 * 4 + 0))]) (h' := [pO 1 [.ref 1, .ref 2, .ref 3, .ref 4, .int fo], pI 96 al, pI 28 (wyV (fb al who) wy), pI 28 mo, pI 28 he]) (d0 := 0) GX5_at kX2_fitting_77 rfl rfl (Nat.le_of_ble_eq_true rfl) (Nat.le_of_ble_eq_true rfl) rfl ⟨rfl, trivial⟩ (at_in (n := 28) (by decide) (wyV (fb al who) wy) (k := (0 * 4 + 0)) (by omega)) (Nat.zero_le _) rfl (Nat.le_of_ble_eq_true rfl) (Nat.le_of_ble_eq_true rfl) rfl rfl ?_
    exact P0.ri (by decide +kernel) rfl rfl ⟨by rw [wyV_at (s := 0) (l := 0) (by omega) (by omega)], rfl⟩
