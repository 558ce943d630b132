/-! ===== laid by program (wip/tools) ===== -/
theorem it_max_le2 {f : Nat → Nat} {B : Nat} : ∀ n, (∀ d, d < n → f d ≤ B) → it (fun d v => max v (f d)) n 0 ≤ B
  | 0, _ => Nat.zero_le _
  | n + 1, h => Nat.max_le.mpr ⟨it_max_le2 n (fun d hd => h d (by omega)), h n (by omega)⟩
theorem it_max_ge {f : Nat → Nat} {d : Nat} : ∀ n, d < n → f d ≤ it (fun d v => max v (f d)) n 0
  | 0, h => absurd h (Nat.not_lt_zero d)
  | n + 1, h => by
    rw [it_succ]
    by_cases e : d = n
    · rw [e]; exact Nat.le_max_right _ _
    · exact Nat.le_trans (it_max_ge n (by omega)) (Nat.le_max_left _ _)
/-- the most that may be told alike, so many steps being left, by how many live up to there -/
def Mx (T : Nat → Nat → Int32 → Bool) : Nat → (Nat → Nat) → Nat
  | 0, h => sm 4 h
  | r + 1, h => it (fun n v => max v (Mx T r (nxv T (5 - r) (tlv n) h))) 7 0
def mxn (T : Nat → Nat → Int32 → Bool) (r s : Nat) (h : Nat → Nat) (n : Nat) : Nat := it (fun n v => max v (Mx T r (nxv T s (tlv n) h))) n 0
theorem nb_swap (T : Nat → Nat → Int32 → Bool) (s : Nat) (t : Int32) (h B : Nat → Nat) : bdd T s t h B 4 = sm 4 (fun l => h l * bsm T B (s * 4 + l) t 4) := by
  unfold bdd
  have e1 : sm 4 (fun d => nxv T s t h d * B d) = sm 4 (fun d => sm 4 (fun l => (if T (s * 4 + l) d t = true then h l else 0) * B d)) := sm_eq 4 (fun d _ => (sm_mul _ _ 4).symm)
  rw [e1, sm_swap]
  refine sm_eq 4 (fun l _ => ?_)
  have e2 : sm 4 (fun d => (if T (s * 4 + l) d t = true then h l else 0) * B d) = sm 4 (fun d => (if T (s * 4 + l) d t = true then B d else 0) * h l) := sm_eq 4 (fun d _ => by
    split
    · exact Nat.mul_comm _ _
    · rw [Nat.zero_mul, Nat.zero_mul])
  rw [e2, sm_mul, Nat.mul_comm]
  rfl
theorem bsm_Bn {T : Nat → Nat → Int32 → Bool} {r l n : Nat} (hr : r ≤ 5) (hn : n < 7) : bsm T (Bn T r) ((5 - r) * 4 + l) (tlv n) 4 ≤ Bn T (r + 1) l :=
  it_max_ge (f := fun n => bsm T (Bn T r) ((5 - r) * 4 + l) (tlv n) 4) 7 hn
theorem Mx_le (T : Nat → Nat → Int32 → Bool) : ∀ r h, r ≤ 6 → Mx T r h ≤ sm 4 (fun l => h l * Bn T r l)
  | 0, h, _ => Nat.le_of_eq (sm_eq 4 (fun l _ => (Nat.mul_one (h l)).symm))
  | r + 1, h, hr => it_max_le2 7 (fun n hn => by
      refine Nat.le_trans (Mx_le T r _ (by omega)) ?_
      show bdd T (5 - r) (tlv n) h (Bn T r) 4 ≤ _
      rw [nb_swap]
      exact sm_le 4 (fun l _ => Nat.mul_le_mul_left _ (bsm_Bn (by omega) hn)))
theorem bdd_le {T : Nat → Nat → Int32 → Bool} {s r : Nat} {t : Int32} {h : Nat → Nat} (hs : s + (r + 1) = 6) (hh : sm 4 h ≤ 4 ^ s) : bdd T s t h (Bn T r) 4 ≤ 4096 := by
  rw [nb_swap]
  have h1 : sm 4 (fun l => h l * bsm T (Bn T r) (s * 4 + l) t 4) ≤ sm 4 (fun l => h l * 4 ^ (r + 1)) := sm_le 4 (fun l _ => Nat.mul_le_mul_left _ (by
    have := it_sum_le (f := fun d => if T (s * 4 + l) d t = true then Bn T r d else 0) (B := 4 ^ r) (fun d => by split; exact Bn_le T r d; exact Nat.zero_le _) 4
    rw [Nat.pow_succ, Nat.mul_comm (4 ^ r) 4]
    exact this))
  rw [sm_mul] at h1
  refine Nat.le_trans h1 (Nat.le_trans (Nat.mul_le_mul_right _ hh) ?_)
  rw [← Nat.pow_add, hs]
  decide
theorem nxv_tot {T : Nat → Nat → Int32 → Bool} {s : Nat} {t : Int32} {h : Nat → Nat} (hh : sm 4 h ≤ 4 ^ s) : sm 4 (nxv T s t h) ≤ 4 ^ (s + 1) := by
  have e : sm 4 (nxv T s t h) = bdd T s t h (fun _ => 1) 4 := sm_eq 4 (fun d _ => (Nat.mul_one _).symm)
  rw [e, nb_swap]
  have h1 : sm 4 (fun l => h l * bsm T (fun _ => 1) (s * 4 + l) t 4) ≤ sm 4 (fun l => h l * 4) := sm_le 4 (fun l _ => Nat.mul_le_mul_left _ (by
    have := it_sum_le (f := fun d => if T (s * 4 + l) d t = true then 1 else 0) (B := 1) (fun d => by split <;> omega) 4
    exact this))
  rw [sm_mul] at h1
  rw [Nat.pow_succ]
  exact Nat.le_trans h1 (Nat.mul_le_mul_right _ hh)
theorem fl_skip {T : Nat → Nat → Int32 → Bool} {r s f0 n : Nat} {h : Nat → Nat} (hr : r ≤ 6) (hb : bdd T s (tlv n) h (Bn T r) 4 ≤ max f0 (mxn T r s h n)) : max f0 (mxn T r s h (n + 1)) = max f0 (mxn T r s h n) := by
  have h1 : Mx T r (nxv T s (tlv n) h) ≤ bdd T s (tlv n) h (Bn T r) 4 := Mx_le T r _ hr
  have e : mxn T r s h (n + 1) = max (mxn T r s h n) (Mx T r (nxv T s (tlv n) h)) := rfl
  rw [e]
  omega
theorem fl_zero {T : Nat → Nat → Int32 → Bool} {s f0 n : Nat} {h : Nat → Nat} (hb : ¬ bdd T s (tlv n) h (Bn T 0) 4 ≤ max f0 (mxn T 0 s h n)) : bdd T s (tlv n) h (Bn T 0) 4 = max f0 (mxn T 0 s h (n + 1)) := by
  have h1 : bdd T s (tlv n) h (Bn T 0) 4 = Mx T 0 (nxv T s (tlv n) h) := sm_eq 4 (fun d _ => Nat.mul_one _)
  have e : mxn T 0 s h (n + 1) = max (mxn T 0 s h n) (Mx T 0 (nxv T s (tlv n) h)) := rfl
  rw [e, ← h1]
  omega
theorem fl_rec {T : Nat → Nat → Int32 → Bool} {r s f0 n : Nat} {h : Nat → Nat} : max (max f0 (mxn T r s h n)) (Mx T r (nxv T s (tlv n) h)) = max f0 (mxn T r s h (n + 1)) := by
  have e : mxn T r s h (n + 1) = max (mxn T r s h n) (Mx T r (nxv T s (tlv n) h)) := rfl
  rw [e]
  omega
theorem mxn_le {T : Nat → Nat → Int32 → Bool} {s r : Nat} {h : Nat → Nat} (hs : s + (r + 1) = 6) (hh : sm 4 h ≤ 4 ^ s) (n : Nat) : mxn T r s h n ≤ 4096 :=
  it_max_le2 n (fun k _ => Nat.le_trans (Mx_le T r _ (by omega)) (bdd_le hs hh))
theorem nI_nle2 {a b : Nat} (h : ¬ nI a ≤ nI b) (hb : b < 2 ^ 31) : ¬ a ≤ b := fun z => h (nI_le z hb)
theorem nI_le2 {a b : Nat} (h : nI a ≤ nI b) (ha : a < 2 ^ 31) (hb : b < 2 ^ 31) : a ≤ b := (nI_leI ha hb).mp h
theorem nI_ge6 {s : Nat} (h : s = 6) : 6 ≤ nI s := by subst h; decide
theorem reach_end {al wy mo sy he : Nat → Int32} {who b fo : Int32} {s : Nat} (hs : s = 6) : P0 0 0 0 mX2_reach (0, ent 5 [.ref 0, .int who, .ref 5, .int (nI s), .int b], [], [pO 1 [.ref 1, .ref 2, .ref 3, .ref 4, .int fo], pI 96 al, pI 28 wy, pI 28 mo, pI 28 he, pI 96 sy]) (fun r' h' => r' = none ∧ h' = [pO 1 [.ref 1, .ref 2, .ref 3, .ref 4, .int b], pI 96 al, pI 28 wy, pI 28 mo, pI 28 he, pI 96 sy]) := by
  refine P0.b GX2_reach 3 (ob := []) (cf' := (if 6 ≤ nI s then 16 else 6, [some (.ref 0), some (.int who), some (.ref 5), some (.int (nI s)), some (.int b)], [], [pO 1 [.ref 1, .ref 2, .ref 3, .ref 4, .int fo], pI 96 al, pI 28 wy, pI 28 mo, pI 28 he, pI 96 sy])) rfl trivial ?_
  rw [if_pos (show 6 ≤ nI s from nI_ge6 hs)]
  refine P0.b GX2_reach 3 (ob := []) (cf' := (22, [some (.ref 0), some (.int who), some (.ref 5), some (.int (nI s)), some (.int b)], [], [pO 1 [.ref 1, .ref 2, .ref 3, .ref 4, .int b], pI 96 al, pI 28 wy, pI 28 mo, pI 28 he, pI 96 sy])) rfl trivial ?_
  exact P0.rv (by decide +kernel) rfl ⟨rfl, rfl⟩
theorem reach_go {al wy mo sy he : Nat → Int32} {who b fo fo1 : Int32} {D s : Nat} (hs : s < 6) (hF : P0 D 0 0 mX2_follow (0, ent 6 [.ref 0, .int who, .ref 5, .int (nI s)], [], [pO 1 [.ref 1, .ref 2, .ref 3, .ref 4, .int fo], pI 96 al, pI 28 wy, pI 28 mo, pI 28 he, pI 96 sy]) (fun r' h' => ∃ he', r' = none ∧ h' = [pO 1 [.ref 1, .ref 2, .ref 3, .ref 4, .int fo1], pI 96 al, pI 28 wy, pI 28 mo, pI 28 he', pI 96 sy] ∧ ∀ x, x < (s + 1) * 4 → he' x = he x)) : P0 (D + 1) 0 0 mX2_reach (0, ent 5 [.ref 0, .int who, .ref 5, .int (nI s), .int b], [], [pO 1 [.ref 1, .ref 2, .ref 3, .ref 4, .int fo], pI 96 al, pI 28 wy, pI 28 mo, pI 28 he, pI 96 sy]) (fun r' h' => ∃ he', r' = none ∧ h' = [pO 1 [.ref 1, .ref 2, .ref 3, .ref 4, .int fo1], pI 96 al, pI 28 wy, pI 28 mo, pI 28 he', pI 96 sy] ∧ ∀ x, x < (s + 1) * 4 → he' x = he x) := by
  refine P0.b GX2_reach 3 (ob := []) (cf' := (if 6 ≤ nI s then 16 else 6, [some (.ref 0), some (.int who), some (.ref 5), some (.int (nI s)), some (.int b)], [], [pO 1 [.ref 1, .ref 2, .ref 3, .ref 4, .int fo], pI 96 al, pI 28 wy, pI 28 mo, pI 28 he, pI 96 sy])) rfl trivial ?_
  rw [if_neg (show ¬ (6 ≤ nI s) from nI_ge (b := 6) hs (by decide))]
  refine P0.b GX2_reach 4 (ob := []) (cf' := (10, [some (.ref 0), some (.int who), some (.ref 5), some (.int (nI s)), some (.int b)], [.int (nI s), .ref 5, .int who, .ref 0], [pO 1 [.ref 1, .ref 2, .ref 3, .ref 4, .int fo], pI 96 al, pI 28 wy, pI 28 mo, pI 28 he, pI 96 sy])) rfl trivial ?_
  refine P0.cs (as := [.ref 0, .int who, .ref 5, .int (nI s)]) (rest := []) GX2_follow kX2_reach_10 rfl ⟨_, _, rfl, rfl, .inl ⟨_, _, _, _, rfl, rfl⟩⟩ (Nat.le_of_ble_eq_true rfl) (Nat.le_of_ble_eq_true rfl) hF (Nat.le_of_ble_eq_true rfl) (fun _ _ ⟨_, _, q, _⟩ => q ▸ rfl) ?_
  rintro _ _ ⟨he2, rfl, rfl, hr⟩
  show P0 _ _ _ _ (13, [some (.ref 0), some (.int who), some (.ref 5), some (.int (nI s)), some (.int b)], [], [pO 1 [.ref 1, .ref 2, .ref 3, .ref 4, .int fo1], pI 96 al, pI 28 wy, pI 28 mo, pI 28 he2, pI 96 sy]) _
  refine P0.b GX2_reach 1 (ob := []) (cf' := (22, [some (.ref 0), some (.int who), some (.ref 5), some (.int (nI s)), some (.int b)], [], [pO 1 [.ref 1, .ref 2, .ref 3, .ref 4, .int fo1], pI 96 al, pI 28 wy, pI 28 mo, pI 28 he2, pI 96 sy])) rfl trivial ?_
  exact P0.rv (by decide +kernel) rfl ⟨he2, rfl, rfl, hr⟩
theorem fl_fin {T : Nat → Nat → Int32 → Bool} {r s : Nat} {h : Nat → Nat} (hs : 5 - r = s) : mxn T r s h 7 = Mx T (r + 1) h := by subst hs; rfl
set_option maxHeartbeats 1000000 in
theorem follow_n {al wy mo sy m0 : Nat → Int32} {who : Int32} (hM : BP (tB al sy who) m0 mo 0) : ∀ (r s : Nat) (h : Nat → Nat) (he : Nat → Int32) (f0 : Nat), s + (r + 1) = 6 → f0 ≤ 4096 → sm 4 h ≤ 4 ^ s → (∀ l, l < 4 → he (s * 4 + l) = nI (h l)) → P0 (3 + 2 * r + 1) 0 0 mX2_follow (0, ent 6 [.ref 0, .int who, .ref 5, .int (nI s)], [], [pO 1 [.ref 1, .ref 2, .ref 3, .ref 4, .int (nI f0)], pI 96 al, pI 28 wy, pI 28 mo, pI 28 he, pI 96 sy]) (fun r' h' => ∃ he', r' = none ∧ h' = [pO 1 [.ref 1, .ref 2, .ref 3, .ref 4, .int (nI (max f0 (Mx (tB al sy who) (r + 1) h)))], pI 96 al, pI 28 wy, pI 28 mo, pI 28 he', pI 96 sy] ∧ ∀ x, x < (s + 1) * 4 → he' x = he x)
  | 0, s, h, he, f0, hs, hf, hh, hH => by
    refine P0.b GX2_follow 2 (ob := []) (cf' := (3, [some (.ref 0), some (.int who), some (.ref 5), some (.int (nI s)), some (.int (-1)), none], [], [pO 1 [.ref 1, .ref 2, .ref 3, .ref 4, .int (nI f0)], pI 96 al, pI 28 wy, pI 28 mo, pI 28 he, pI 96 sy])) rfl trivial ?_
    rw [← tlv_0, show nI f0 = nI (max f0 (mxn (tB al sy who) 0 s h 0)) from congrArg nI (Nat.max_eq_left (Nat.zero_le f0)).symm]
    show P0 _ _ _ _ (3, [some (.ref 0), some (.int who), some (.ref 5), some (.int (nI s)), some (.int (tlv 0)), none], [], [pO 1 [.ref 1, .ref 2, .ref 3, .ref 4, .int (nI (max f0 (mxn (tB al sy who) 0 s h 0)))], pI 96 al, pI 28 wy, pI 28 mo, pI 28 he, pI 96 sy]) _
    refine P0.loopJ (N := 7) (fun _ (v : Nat → Int32) => ∀ x, x < (s + 1) * 4 → v x = he x) (fun i v142 => (3, [some (.ref 0), some (.int who), some (.ref 5), some (.int (nI s)), some (.int (tlv i)), none], [], [pO 1 [.ref 1, .ref 2, .ref 3, .ref 4, .int (nI (max f0 (mxn (tB al sy who) 0 s h i)))], pI 96 al, pI 28 wy, pI 28 mo, pI 28 v142, pI 96 sy])) (fun i142 v142 hi142 hI142 hk142 => ?_) (fun v142 hI142 => ?_) he (fun _ _ => rfl)
    · show P0 _ _ _ _ (3, [some (.ref 0), some (.int who), some (.ref 5), some (.int (nI s)), some (.int (tlv i142)), none], [], [pO 1 [.ref 1, .ref 2, .ref 3, .ref 4, .int (nI (max f0 (mxn (tB al sy who) 0 s h i142)))], pI 96 al, pI 28 wy, pI 28 mo, pI 28 v142, pI 96 sy]) _
      refine P0.b GX2_follow 3 (ob := []) (cf' := (if 6 ≤ nI s then 52 else 9, [some (.ref 0), some (.int who), some (.ref 5), some (.int (nI s)), some (.int (tlv i142)), none], [], [pO 1 [.ref 1, .ref 2, .ref 3, .ref 4, .int (nI (max f0 (mxn (tB al sy who) 0 s h i142)))], pI 96 al, pI 28 wy, pI 28 mo, pI 28 v142, pI 96 sy])) rfl trivial ?_
      rw [if_neg (show ¬ (6 ≤ nI s) from nI_ge (b := 6) (by omega) (by decide))]
      refine P0.b GX2_follow 3 (ob := []) (cf' := (if 5 < tlv i142 then 52 else 15, [some (.ref 0), some (.int who), some (.ref 5), some (.int (nI s)), some (.int (tlv i142)), none], [], [pO 1 [.ref 1, .ref 2, .ref 3, .ref 4, .int (nI (max f0 (mxn (tB al sy who) 0 s h i142)))], pI 96 al, pI 28 wy, pI 28 mo, pI 28 v142, pI 96 sy])) rfl trivial ?_
      rw [if_neg (show ¬ (5 < tlv i142) from tlv_lt _ (by omega))]
      refine P0.b GX2_follow 5 (ob := []) (cf' := (21, [some (.ref 0), some (.int who), some (.ref 5), some (.int (nI s)), some (.int (tlv i142)), none], [.int (tlv i142), .int (nI s), .ref 5, .int who, .ref 0], [pO 1 [.ref 1, .ref 2, .ref 3, .ref 4, .int (nI (max f0 (mxn (tB al sy who) 0 s h i142)))], pI 96 al, pI 28 wy, pI 28 mo, pI 28 v142, pI 96 sy])) rfl trivial ?_
      have hB142 : 5 - s = 0 := by omega
      refine P0.cd (d0 := 3) (as := [.ref 0, .int who, .ref 5, .int (nI s), .int (tlv i142)]) (rest := []) (r1 := some (.int (nI (bdd (tB al sy who) s (tlv i142) h (Bn (tB al sy who) 0) 4)))) (h1 := [pO 1 [.ref 1, .ref 2, .ref 3, .ref 4, .int (nI (max f0 (mxn (tB al sy who) 0 s h i142)))], pI 96 al, pI 28 wy, pI 28 mo, pI 28 (hdV v142 s (nxv (tB al sy who) s (tlv i142) h) 4), pI 96 sy]) (st' := [.int (nI (bdd (tB al sy who) s (tlv i142) h (Bn (tB al sy who) 0) 4))]) GX2_spread kX2_follow_21 rfl ⟨_, _, rfl, rfl, .inl ⟨_, _, _, _, rfl, rfl⟩⟩ (Nat.le_of_ble_eq_true rfl) (Nat.le_of_ble_eq_true rfl) (by have h9 := spread_n (al := al) (wy := wy) (mo := mo) (he := v142) (fo := nI (max f0 (mxn (tB al sy who) 0 s h i142))) (sy := sy) (m0 := m0) who (tlv i142) (s := s) (h := h) (by omega) (fun l hl => (hI142 _ (by omega)).trans (hH l hl)) hM; rw [hB142] at h9; exact h9) (by omega) rfl (Nat.le_of_ble_eq_true rfl) rfl ?_
      refine P0.b GX2_follow 5 (ob := []) (cf' := (if nI (bdd (tB al sy who) s (tlv i142) h (Bn (tB al sy who) 0) 4) ≤ nI (max f0 (mxn (tB al sy who) 0 s h i142)) then 46 else 35, [some (.ref 0), some (.int who), some (.ref 5), some (.int (nI s)), some (.int (tlv i142)), some (.int (nI (bdd (tB al sy who) s (tlv i142) h (Bn (tB al sy who) 0) 4)))], [], [pO 1 [.ref 1, .ref 2, .ref 3, .ref 4, .int (nI (max f0 (mxn (tB al sy who) 0 s h i142)))], pI 96 al, pI 28 wy, pI 28 mo, pI 28 (hdV v142 s (nxv (tB al sy who) s (tlv i142) h) 4), pI 96 sy])) rfl trivial ?_
      refine P0.if (fun h1 => ?_) (fun h1 => ?_)
      · refine P0.b GX2_follow 2 (ob := []) (cf' := (3, [some (.ref 0), some (.int who), some (.ref 5), some (.int (nI s)), some (.int ((tlv i142) + 1)), some (.int (nI (bdd (tB al sy who) s (tlv i142) h (Bn (tB al sy who) 0) 4)))], [], [pO 1 [.ref 1, .ref 2, .ref 3, .ref 4, .int (nI (max f0 (mxn (tB al sy who) 0 s h i142)))], pI 96 al, pI 28 wy, pI 28 mo, pI 28 (hdV v142 s (nxv (tB al sy who) s (tlv i142) h) 4), pI 96 sy])) rfl trivial ?_
        rw [show (tlv i142) + 1 = tlv (i142 + 1) from tlv_s _]
        rw [show nI (max f0 (mxn (tB al sy who) 0 s h i142)) = nI (max f0 (mxn (tB al sy who) 0 s h (i142 + 1))) from congrArg nI (fl_skip (by omega) (nI_le2 h1 (by have := bdd_le (T := (tB al sy who)) (t := tlv i142) hs hh; omega) (by have := mxn_le (T := (tB al sy who)) hs hh i142; omega))).symm]
        refine P0.forget (ls' := [some (.ref 0), some (.int who), some (.ref 5), some (.int (nI s)), some (.int (tlv (i142 + 1))), none]) ⟨.inr rfl, .inr rfl, .inr rfl, .inr rfl, .inr rfl, .inl rfl, trivial⟩ ?_
        exact hk142 (hdV v142 s (nxv (tB al sy who) s (tlv i142) h) 4) (fun x hx => (hdV_lo hx).trans (hI142 x hx))
      · refine P0.b GX2_follow 7 (ob := []) (cf' := (43, [some (.ref 0), some (.int who), some (.ref 5), some (.int (nI s)), some (.int (tlv i142)), some (.int (nI (bdd (tB al sy who) s (tlv i142) h (Bn (tB al sy who) 0) 4)))], [.int (nI (bdd (tB al sy who) s (tlv i142) h (Bn (tB al sy who) 0) 4)), .int ((nI s) + 1), .ref 5, .int who, .ref 0], [pO 1 [.ref 1, .ref 2, .ref 3, .ref 4, .int (nI (max f0 (mxn (tB al sy who) 0 s h i142)))], pI 96 al, pI 28 wy, pI 28 mo, pI 28 (hdV v142 s (nxv (tB al sy who) s (tlv i142) h) 4), pI 96 sy])) rfl trivial ?_
        rw [show (nI s) + 1 = nI (s + 1) from nI_add _ _]
        have e6 : s + 1 = 6 := by omega
        refine P0.cd (d0 := 0) (as := [.ref 0, .int who, .ref 5, .int (nI (s + 1)), .int (nI (bdd (tB al sy who) s (tlv i142) h (Bn (tB al sy who) 0) 4))]) (rest := []) (r1 := none) (h1 := [pO 1 [.ref 1, .ref 2, .ref 3, .ref 4, .int (nI (bdd (tB al sy who) s (tlv i142) h (Bn (tB al sy who) 0) 4))], pI 96 al, pI 28 wy, pI 28 mo, pI 28 (hdV v142 s (nxv (tB al sy who) s (tlv i142) h) 4), pI 96 sy]) (st' := []) GX2_reach kX2_follow_43 rfl ⟨_, _, rfl, rfl, .inl ⟨_, _, _, _, rfl, rfl⟩⟩ (Nat.le_of_ble_eq_true rfl) (Nat.le_of_ble_eq_true rfl) (reach_end (by omega)) (Nat.zero_le _) rfl (Nat.le_of_ble_eq_true rfl) rfl ?_
        refine P0.b GX2_follow 2 (ob := []) (cf' := (3, [some (.ref 0), some (.int who), some (.ref 5), some (.int (nI s)), some (.int ((tlv i142) + 1)), some (.int (nI (bdd (tB al sy who) s (tlv i142) h (Bn (tB al sy who) 0) 4)))], [], [pO 1 [.ref 1, .ref 2, .ref 3, .ref 4, .int (nI (bdd (tB al sy who) s (tlv i142) h (Bn (tB al sy who) 0) 4))], pI 96 al, pI 28 wy, pI 28 mo, pI 28 (hdV v142 s (nxv (tB al sy who) s (tlv i142) h) 4), pI 96 sy])) rfl trivial ?_
        rw [show (tlv i142) + 1 = tlv (i142 + 1) from tlv_s _]
        rw [show nI (bdd (tB al sy who) s (tlv i142) h (Bn (tB al sy who) 0) 4) = nI (max f0 (mxn (tB al sy who) 0 s h (i142 + 1))) from congrArg nI (fl_zero (nI_nle2 h1 (by have := mxn_le (T := (tB al sy who)) hs hh i142; omega)))]
        refine P0.forget (ls' := [some (.ref 0), some (.int who), some (.ref 5), some (.int (nI s)), some (.int (tlv (i142 + 1))), none]) ⟨.inr rfl, .inr rfl, .inr rfl, .inr rfl, .inr rfl, .inl rfl, trivial⟩ ?_
        exact hk142 (hdV v142 s (nxv (tB al sy who) s (tlv i142) h) 4) (fun x hx => (hdV_lo hx).trans (hI142 x hx))
    · show P0 _ _ _ _ (3, [some (.ref 0), some (.int who), some (.ref 5), some (.int (nI s)), some (.int (tlv 7)), none], [], [pO 1 [.ref 1, .ref 2, .ref 3, .ref 4, .int (nI (max f0 (mxn (tB al sy who) 0 s h 7)))], pI 96 al, pI 28 wy, pI 28 mo, pI 28 v142, pI 96 sy]) _
      refine P0.b GX2_follow 3 (ob := []) (cf' := (if 6 ≤ nI s then 52 else 9, [some (.ref 0), some (.int who), some (.ref 5), some (.int (nI s)), some (.int (tlv 7)), none], [], [pO 1 [.ref 1, .ref 2, .ref 3, .ref 4, .int (nI (max f0 (mxn (tB al sy who) 0 s h 7)))], pI 96 al, pI 28 wy, pI 28 mo, pI 28 v142, pI 96 sy])) rfl trivial ?_
      rw [if_neg (show ¬ (6 ≤ nI s) from nI_ge (b := 6) (by omega) (by decide))]
      refine P0.b GX2_follow 3 (ob := []) (cf' := (if 5 < tlv 7 then 52 else 15, [some (.ref 0), some (.int who), some (.ref 5), some (.int (nI s)), some (.int (tlv 7)), none], [], [pO 1 [.ref 1, .ref 2, .ref 3, .ref 4, .int (nI (max f0 (mxn (tB al sy who) 0 s h 7)))], pI 96 al, pI 28 wy, pI 28 mo, pI 28 v142, pI 96 sy])) rfl trivial ?_
      rw [if_pos (show 5 < tlv 7 from tlv_end)]
      exact P0.rv (by decide +kernel) rfl ⟨v142, rfl, by rw [fl_fin (show 5 - 0 = s by omega)], hI142⟩
  | r + 1, s, h, he, f0, hs, hf, hh, hH => by
    refine P0.b GX2_follow 2 (ob := []) (cf' := (3, [some (.ref 0), some (.int who), some (.ref 5), some (.int (nI s)), some (.int (-1)), none], [], [pO 1 [.ref 1, .ref 2, .ref 3, .ref 4, .int (nI f0)], pI 96 al, pI 28 wy, pI 28 mo, pI 28 he, pI 96 sy])) rfl trivial ?_
    rw [← tlv_0, show nI f0 = nI (max f0 (mxn (tB al sy who) (r + 1) s h 0)) from congrArg nI (Nat.max_eq_left (Nat.zero_le f0)).symm]
    show P0 _ _ _ _ (3, [some (.ref 0), some (.int who), some (.ref 5), some (.int (nI s)), some (.int (tlv 0)), none], [], [pO 1 [.ref 1, .ref 2, .ref 3, .ref 4, .int (nI (max f0 (mxn (tB al sy who) (r + 1) s h 0)))], pI 96 al, pI 28 wy, pI 28 mo, pI 28 he, pI 96 sy]) _
    refine P0.loopJ (N := 7) (fun _ (v : Nat → Int32) => ∀ x, x < (s + 1) * 4 → v x = he x) (fun i v143 => (3, [some (.ref 0), some (.int who), some (.ref 5), some (.int (nI s)), some (.int (tlv i)), none], [], [pO 1 [.ref 1, .ref 2, .ref 3, .ref 4, .int (nI (max f0 (mxn (tB al sy who) (r + 1) s h i)))], pI 96 al, pI 28 wy, pI 28 mo, pI 28 v143, pI 96 sy])) (fun i143 v143 hi143 hI143 hk143 => ?_) (fun v143 hI143 => ?_) he (fun _ _ => rfl)
    · show P0 _ _ _ _ (3, [some (.ref 0), some (.int who), some (.ref 5), some (.int (nI s)), some (.int (tlv i143)), none], [], [pO 1 [.ref 1, .ref 2, .ref 3, .ref 4, .int (nI (max f0 (mxn (tB al sy who) (r + 1) s h i143)))], pI 96 al, pI 28 wy, pI 28 mo, pI 28 v143, pI 96 sy]) _
      refine P0.b GX2_follow 3 (ob := []) (cf' := (if 6 ≤ nI s then 52 else 9, [some (.ref 0), some (.int who), some (.ref 5), some (.int (nI s)), some (.int (tlv i143)), none], [], [pO 1 [.ref 1, .ref 2, .ref 3, .ref 4, .int (nI (max f0 (mxn (tB al sy who) (r + 1) s h i143)))], pI 96 al, pI 28 wy, pI 28 mo, pI 28 v143, pI 96 sy])) rfl trivial ?_
      rw [if_neg (show ¬ (6 ≤ nI s) from nI_ge (b := 6) (by omega) (by decide))]
      refine P0.b GX2_follow 3 (ob := []) (cf' := (if 5 < tlv i143 then 52 else 15, [some (.ref 0), some (.int who), some (.ref 5), some (.int (nI s)), some (.int (tlv i143)), none], [], [pO 1 [.ref 1, .ref 2, .ref 3, .ref 4, .int (nI (max f0 (mxn (tB al sy who) (r + 1) s h i143)))], pI 96 al, pI 28 wy, pI 28 mo, pI 28 v143, pI 96 sy])) rfl trivial ?_
      rw [if_neg (show ¬ (5 < tlv i143) from tlv_lt _ (by omega))]
      refine P0.b GX2_follow 5 (ob := []) (cf' := (21, [some (.ref 0), some (.int who), some (.ref 5), some (.int (nI s)), some (.int (tlv i143)), none], [.int (tlv i143), .int (nI s), .ref 5, .int who, .ref 0], [pO 1 [.ref 1, .ref 2, .ref 3, .ref 4, .int (nI (max f0 (mxn (tB al sy who) (r + 1) s h i143)))], pI 96 al, pI 28 wy, pI 28 mo, pI 28 v143, pI 96 sy])) rfl trivial ?_
      have hB143 : 5 - s = (r + 1) := by omega
      refine P0.cd (d0 := 3) (as := [.ref 0, .int who, .ref 5, .int (nI s), .int (tlv i143)]) (rest := []) (r1 := some (.int (nI (bdd (tB al sy who) s (tlv i143) h (Bn (tB al sy who) (r + 1)) 4)))) (h1 := [pO 1 [.ref 1, .ref 2, .ref 3, .ref 4, .int (nI (max f0 (mxn (tB al sy who) (r + 1) s h i143)))], pI 96 al, pI 28 wy, pI 28 mo, pI 28 (hdV v143 s (nxv (tB al sy who) s (tlv i143) h) 4), pI 96 sy]) (st' := [.int (nI (bdd (tB al sy who) s (tlv i143) h (Bn (tB al sy who) (r + 1)) 4))]) GX2_spread kX2_follow_21 rfl ⟨_, _, rfl, rfl, .inl ⟨_, _, _, _, rfl, rfl⟩⟩ (Nat.le_of_ble_eq_true rfl) (Nat.le_of_ble_eq_true rfl) (by have h9 := spread_n (al := al) (wy := wy) (mo := mo) (he := v143) (fo := nI (max f0 (mxn (tB al sy who) (r + 1) s h i143))) (sy := sy) (m0 := m0) who (tlv i143) (s := s) (h := h) (by omega) (fun l hl => (hI143 _ (by omega)).trans (hH l hl)) hM; rw [hB143] at h9; exact h9) (by omega) rfl (Nat.le_of_ble_eq_true rfl) rfl ?_
      refine P0.b GX2_follow 5 (ob := []) (cf' := (if nI (bdd (tB al sy who) s (tlv i143) h (Bn (tB al sy who) (r + 1)) 4) ≤ nI (max f0 (mxn (tB al sy who) (r + 1) s h i143)) then 46 else 35, [some (.ref 0), some (.int who), some (.ref 5), some (.int (nI s)), some (.int (tlv i143)), some (.int (nI (bdd (tB al sy who) s (tlv i143) h (Bn (tB al sy who) (r + 1)) 4)))], [], [pO 1 [.ref 1, .ref 2, .ref 3, .ref 4, .int (nI (max f0 (mxn (tB al sy who) (r + 1) s h i143)))], pI 96 al, pI 28 wy, pI 28 mo, pI 28 (hdV v143 s (nxv (tB al sy who) s (tlv i143) h) 4), pI 96 sy])) rfl trivial ?_
      refine P0.if (fun h1 => ?_) (fun h1 => ?_)
      · refine P0.b GX2_follow 2 (ob := []) (cf' := (3, [some (.ref 0), some (.int who), some (.ref 5), some (.int (nI s)), some (.int ((tlv i143) + 1)), some (.int (nI (bdd (tB al sy who) s (tlv i143) h (Bn (tB al sy who) (r + 1)) 4)))], [], [pO 1 [.ref 1, .ref 2, .ref 3, .ref 4, .int (nI (max f0 (mxn (tB al sy who) (r + 1) s h i143)))], pI 96 al, pI 28 wy, pI 28 mo, pI 28 (hdV v143 s (nxv (tB al sy who) s (tlv i143) h) 4), pI 96 sy])) rfl trivial ?_
        rw [show (tlv i143) + 1 = tlv (i143 + 1) from tlv_s _]
        rw [show nI (max f0 (mxn (tB al sy who) (r + 1) s h i143)) = nI (max f0 (mxn (tB al sy who) (r + 1) s h (i143 + 1))) from congrArg nI (fl_skip (by omega) (nI_le2 h1 (by have := bdd_le (T := (tB al sy who)) (t := tlv i143) hs hh; omega) (by have := mxn_le (T := (tB al sy who)) hs hh i143; omega))).symm]
        refine P0.forget (ls' := [some (.ref 0), some (.int who), some (.ref 5), some (.int (nI s)), some (.int (tlv (i143 + 1))), none]) ⟨.inr rfl, .inr rfl, .inr rfl, .inr rfl, .inr rfl, .inl rfl, trivial⟩ ?_
        exact hk143 (hdV v143 s (nxv (tB al sy who) s (tlv i143) h) 4) (fun x hx => (hdV_lo hx).trans (hI143 x hx))
      · refine P0.b GX2_follow 7 (ob := []) (cf' := (43, [some (.ref 0), some (.int who), some (.ref 5), some (.int (nI s)), some (.int (tlv i143)), some (.int (nI (bdd (tB al sy who) s (tlv i143) h (Bn (tB al sy who) (r + 1)) 4)))], [.int (nI (bdd (tB al sy who) s (tlv i143) h (Bn (tB al sy who) (r + 1)) 4)), .int ((nI s) + 1), .ref 5, .int who, .ref 0], [pO 1 [.ref 1, .ref 2, .ref 3, .ref 4, .int (nI (max f0 (mxn (tB al sy who) (r + 1) s h i143)))], pI 96 al, pI 28 wy, pI 28 mo, pI 28 (hdV v143 s (nxv (tB al sy who) s (tlv i143) h) 4), pI 96 sy])) rfl trivial ?_
        rw [show (nI s) + 1 = nI (s + 1) from nI_add _ _]
        refine P0.cs (as := [.ref 0, .int who, .ref 5, .int (nI (s + 1)), .int (nI (bdd (tB al sy who) s (tlv i143) h (Bn (tB al sy who) (r + 1)) 4))]) (rest := []) GX2_reach kX2_follow_43 rfl ⟨_, _, rfl, rfl, .inl ⟨_, _, _, _, rfl, rfl⟩⟩ (Nat.le_of_ble_eq_true rfl) (Nat.le_of_ble_eq_true rfl) (P0.mono (reach_go (by omega) (follow_n hM r (s + 1) (nxv (tB al sy who) s (tlv i143) h) (hdV v143 s (nxv (tB al sy who) s (tlv i143) h) 4) (max f0 (mxn (tB al sy who) (r + 1) s h i143)) (by omega) (by have := mxn_le (T := (tB al sy who)) hs hh i143; omega) (nxv_tot hh) (fun l hl => hdV_at hl))) (by omega) (Nat.zero_le _) (Nat.zero_le _) (fun _ _ q => q)) (Nat.le_of_ble_eq_true rfl) (fun _ _ ⟨_, _, q, _⟩ => q ▸ rfl) ?_
        rintro _ _ ⟨he144, rfl, rfl, hr144⟩
        show P0 _ _ _ _ (46, [some (.ref 0), some (.int who), some (.ref 5), some (.int (nI s)), some (.int (tlv i143)), some (.int (nI (bdd (tB al sy who) s (tlv i143) h (Bn (tB al sy who) (r + 1)) 4)))], [], [pO 1 [.ref 1, .ref 2, .ref 3, .ref 4, .int (nI (max (max f0 (mxn (tB al sy who) (r + 1) s h i143)) (Mx (tB al sy who) (r + 1) (nxv (tB al sy who) s (tlv i143) h))))], pI 96 al, pI 28 wy, pI 28 mo, pI 28 he144, pI 96 sy]) _
        refine P0.b GX2_follow 2 (ob := []) (cf' := (3, [some (.ref 0), some (.int who), some (.ref 5), some (.int (nI s)), some (.int ((tlv i143) + 1)), some (.int (nI (bdd (tB al sy who) s (tlv i143) h (Bn (tB al sy who) (r + 1)) 4)))], [], [pO 1 [.ref 1, .ref 2, .ref 3, .ref 4, .int (nI (max (max f0 (mxn (tB al sy who) (r + 1) s h i143)) (Mx (tB al sy who) (r + 1) (nxv (tB al sy who) s (tlv i143) h))))], pI 96 al, pI 28 wy, pI 28 mo, pI 28 he144, pI 96 sy])) rfl trivial ?_
        rw [show (tlv i143) + 1 = tlv (i143 + 1) from tlv_s _]
        rw [show nI (max (max f0 (mxn (tB al sy who) (r + 1) s h i143)) (Mx (tB al sy who) (r + 1) (nxv (tB al sy who) s (tlv i143) h))) = nI (max f0 (mxn (tB al sy who) (r + 1) s h (i143 + 1))) from congrArg nI fl_rec]
        refine P0.forget (ls' := [some (.ref 0), some (.int who), some (.ref 5), some (.int (nI s)), some (.int (tlv (i143 + 1))), none]) ⟨.inr rfl, .inr rfl, .inr rfl, .inr rfl, .inr rfl, .inl rfl, trivial⟩ ?_
        exact hk143 he144 (fun x hx => (hr144 x (by omega)).trans ((hdV_lo hx).trans (hI143 x hx)))
    · show P0 _ _ _ _ (3, [some (.ref 0), some (.int who), some (.ref 5), some (.int (nI s)), some (.int (tlv 7)), none], [], [pO 1 [.ref 1, .ref 2, .ref 3, .ref 4, .int (nI (max f0 (mxn (tB al sy who) (r + 1) s h 7)))], pI 96 al, pI 28 wy, pI 28 mo, pI 28 v143, pI 96 sy]) _
      refine P0.b GX2_follow 3 (ob := []) (cf' := (if 6 ≤ nI s then 52 else 9, [some (.ref 0), some (.int who), some (.ref 5), some (.int (nI s)), some (.int (tlv 7)), none], [], [pO 1 [.ref 1, .ref 2, .ref 3, .ref 4, .int (nI (max f0 (mxn (tB al sy who) (r + 1) s h 7)))], pI 96 al, pI 28 wy, pI 28 mo, pI 28 v143, pI 96 sy])) rfl trivial ?_
      rw [if_neg (show ¬ (6 ≤ nI s) from nI_ge (b := 6) (by omega) (by decide))]
      refine P0.b GX2_follow 3 (ob := []) (cf' := (if 5 < tlv 7 then 52 else 15, [some (.ref 0), some (.int who), some (.ref 5), some (.int (nI s)), some (.int (tlv 7)), none], [], [pO 1 [.ref 1, .ref 2, .ref 3, .ref 4, .int (nI (max f0 (mxn (tB al sy who) (r + 1) s h 7)))], pI 96 al, pI 28 wy, pI 28 mo, pI 28 v143, pI 96 sy])) rfl trivial ?_
      rw [if_pos (show 5 < tlv 7 from tlv_end)]
      exact P0.rv (by decide +kernel) rfl ⟨v143, rfl, by rw [fl_fin (show 5 - (r + 1) = s by omega)], hI143⟩
def h0 (l : Nat) : Nat := if l = 0 then 1 else 0
theorem boV_BP {T : Nat → Nat → Int32 → Bool} {m0 : Nat → Int32} : BP T m0 (boV T m0) 0 := ⟨fun x _ h => if_pos h, fun x h => if_neg (by omega)⟩
def FolQ (c0 c1 c2 c3 c5 : va_E) (row : Nat → Int32) : Option Value → PH → Prop := fun r' h' => ∃ he', r' = none ∧ h' = [c0, c1, c2, c3, pI 28 he', c5] ∧ ∀ x, x < 4 → he' x = row x
theorem FolQ.len {c0 c1 c2 c3 c5 : va_E} {row : Nat → Int32} {r : Option Value} {h' : PH} (q : FolQ c0 c1 c2 c3 c5 row r h') : h'.length = 6 := by
  obtain ⟨he', _, e, _⟩ := q
  rw [e]
  rfl
theorem h0_tot : sm 4 h0 ≤ 4 ^ 0 := Nat.le_refl 1
theorem h0_row {f : Nat → Int32} : ∀ l, l < 4 → upd (filV f 28 0) (0 * 4 + 0) 1 (0 * 4 + l) = nI (h0 l) := fun l hl => by
  by_cases e : l = 0
  · subst e; exact pk_us
  · rw [pk_un (by omega)]
    unfold h0 filV
    rw [if_neg e, if_pos (by omega)]
    exact nI_0.symm
set_option maxHeartbeats 1000000 in
theorem mostTold_n {al wy mo he : Nat → Int32} {fo : Int32} {sy : Nat → Int32} {who : Int32} : P0 15 0 0 mX2_mostToldAlike (0, ent 3 [.ref 0, .int who, .ref 5], [], [pO 1 [.ref 1, .ref 2, .ref 3, .ref 4, .int fo], pI 96 al, pI 28 wy, pI 28 mo, pI 28 he, pI 96 sy]) (fun r h' => ∃ he', r = some (.int (nI (Mx (tB al sy who) 6 h0))) ∧ h' = [pO 1 [.ref 1, .ref 2, .ref 3, .ref 4, .int (nI (Mx (tB al sy who) 6 h0))], pI 96 al, pI 28 wy, pI 28 (boV (tB al sy who) mo), pI 28 he', pI 96 sy]) := by
  refine P0.b GX2_mostToldAlike 3 (ob := []) (cf' := (3, [some (.ref 0), some (.int who), some (.ref 5)], [.ref 5, .int who, .ref 0], [pO 1 [.ref 1, .ref 2, .ref 3, .ref 4, .int fo], pI 96 al, pI 28 wy, pI 28 mo, pI 28 he, pI 96 sy])) rfl trivial ?_
  refine P0.cd (d0 := 4) (as := [.ref 0, .int who, .ref 5]) (rest := []) (r1 := none) (h1 := [pO 1 [.ref 1, .ref 2, .ref 3, .ref 4, .int fo], pI 96 al, pI 28 wy, pI 28 (boV (tB al sy who) mo), pI 28 he, pI 96 sy]) (st' := []) GX2_fillBounds kX2_mostToldAlike_3 rfl ⟨_, _, rfl, rfl, .inl ⟨_, _, _, _, rfl, rfl⟩⟩ (Nat.le_of_ble_eq_true rfl) (Nat.le_of_ble_eq_true rfl) (fillBounds_n who) (Nat.le_of_ble_eq_true rfl) rfl (Nat.le_of_ble_eq_true rfl) rfl ?_
  refine P0.b GX2_mostToldAlike 3 (ob := []) (cf' := (11, [some (.ref 0), some (.int who), some (.ref 5)], [.int 0, .ref 4], [pO 1 [.ref 1, .ref 2, .ref 3, .ref 4, .int fo], pI 96 al, pI 28 wy, pI 28 (boV (tB al sy who) mo), pI 28 he, pI 96 sy])) rfl trivial ?_
  refine P0.cr (io := [4]) (as := [.ref 0, .int 0]) (rest := []) (hc := [pI 28 he]) (hc1 := [pI 28 (filV he 28 0)]) (r1 := none) (st' := []) (h' := [pO 1 [.ref 1, .ref 2, .ref 3, .ref 4, .int fo], pI 96 al, pI 28 wy, pI 28 (boV (tB al sy who) mo), pI 28 (filV he 28 0), pI 96 sy]) (d0 := 0) GJ7_fill_53178 kX2_mostToldAlike_11 rfl rfl (Nat.le_of_ble_eq_true rfl) (Nat.le_of_ble_eq_true rfl) rfl ⟨rfl, trivial⟩ (fill_n (n := 28) (by decide) he 0) (Nat.zero_le _) rfl (Nat.le_of_ble_eq_true rfl) (Nat.le_of_ble_eq_true rfl) rfl rfl ?_
  refine P0.b GX2_mostToldAlike 4 (ob := []) (cf' := (20, [some (.ref 0), some (.int who), some (.ref 5)], [.int 0, .int 0, .ref 4], [pO 1 [.ref 1, .ref 2, .ref 3, .ref 4, .int fo], pI 96 al, pI 28 wy, pI 28 (boV (tB al sy who) mo), pI 28 (filV he 28 0), pI 96 sy])) rfl trivial ?_
  refine P0.cr (io := []) (as := [.int (nI 0), .int (nI 0)]) (rest := [.ref 4]) (hc := []) (hc1 := []) (r1 := some (.int (nI (0 * 4 + 0)))) (st' := [.int (nI (0 * 4 + 0)), .ref 4]) (h' := [pO 1 [.ref 1, .ref 2, .ref 3, .ref 4, .int fo], pI 96 al, pI 28 wy, pI 28 (boV (tB al sy who) mo), pI 28 (filV he 28 0), pI 96 sy]) (d0 := 0) GX2_spot kX2_mostToldAlike_20 rfl rfl (Nat.le_of_ble_eq_true rfl) (Nat.le_of_ble_eq_true rfl) rfl trivial (spot2_n 0 0) (Nat.le_of_ble_eq_true rfl) rfl (Nat.le_of_ble_eq_true rfl) (Nat.le_of_ble_eq_true rfl) rfl rfl ?_
  refine P0.b GX2_mostToldAlike 1 (ob := []) (cf' := (24, [some (.ref 0), some (.int who), some (.ref 5)], [.int 1, .int (nI (0 * 4 + 0)), .ref 4], [pO 1 [.ref 1, .ref 2, .ref 3, .ref 4, .int fo], pI 96 al, pI 28 wy, pI 28 (boV (tB al sy who) mo), pI 28 (filV he 28 0), pI 96 sy])) rfl trivial ?_
  refine P0.cr (io := [4]) (as := [.ref 0, .int (nI (0 * 4 + 0)), .int 1]) (rest := []) (hc := [pI 28 (filV he 28 0)]) (hc1 := [pI 28 (upd (filV he 28 0) (0 * 4 + 0) 1)]) (r1 := none) (st' := []) (h' := [pO 1 [.ref 1, .ref 2, .ref 3, .ref 4, .int fo], pI 96 al, pI 28 wy, pI 28 (boV (tB al sy who) mo), pI 28 (upd (filV he 28 0) (0 * 4 + 0) 1), pI 96 sy]) (d0 := 0) GX5_put kX2_mostToldAlike_24 rfl rfl (Nat.le_of_ble_eq_true rfl) (Nat.le_of_ble_eq_true rfl) rfl ⟨rfl, trivial⟩ (put_in (n := 28) (by decide) (filV he 28 0) (k := (0 * 4 + 0)) (by omega) 1) (Nat.zero_le _) rfl (Nat.le_of_ble_eq_true rfl) (Nat.le_of_ble_eq_true rfl) rfl rfl ?_
  refine P0.b GX2_mostToldAlike 3 (ob := []) (cf' := (32, [some (.ref 0), some (.int who), some (.ref 5)], [], [pO 1 [.ref 1, .ref 2, .ref 3, .ref 4, .int 0], pI 96 al, pI 28 wy, pI 28 (boV (tB al sy who) mo), pI 28 (upd (filV he 28 0) (0 * 4 + 0) 1), pI 96 sy])) rfl trivial ?_
  refine P0.b GX2_mostToldAlike 4 (ob := []) (cf' := (36, [some (.ref 0), some (.int who), some (.ref 5)], [.int 0, .ref 5, .int who, .ref 0], [pO 1 [.ref 1, .ref 2, .ref 3, .ref 4, .int 0], pI 96 al, pI 28 wy, pI 28 (boV (tB al sy who) mo), pI 28 (upd (filV he 28 0) (0 * 4 + 0) 1), pI 96 sy])) rfl trivial ?_
  refine P0.cs (Q1 := FolQ (pO 1 [.ref 1, .ref 2, .ref 3, .ref 4, .int (nI (Mx (tB al sy who) 6 h0))]) (pI 96 al) (pI 28 wy) (pI 28 (boV (tB al sy who) mo)) (pI 96 sy) (upd (filV he 28 0) (0 * 4 + 0) 1)) (as := [.ref 0, .int who, .ref 5, .int 0]) (rest := []) GX2_follow kX2_mostToldAlike_36 rfl ⟨_, _, rfl, rfl, .inl ⟨_, _, _, _, rfl, rfl⟩⟩ (Nat.le_of_ble_eq_true rfl) (Nat.le_of_ble_eq_true rfl) (P0.mono (by have h9 := follow_n (al := al) (wy := wy) (mo := boV (tB al sy who) mo) (sy := sy) (who := who) boV_BP 5 0 h0 (upd (filV he 28 0) (0 * 4 + 0) 1) 0 rfl (Nat.zero_le _) h0_tot h0_row; rw [nI_0, Nat.max_eq_right (Nat.zero_le _)] at h9; exact h9) (Nat.le_refl _) (Nat.zero_le _) (Nat.zero_le _) (fun _ _ q => q)) (Nat.le_of_ble_eq_true rfl) (fun _ _ q => q.len) ?_
  rintro _ _ ⟨he2, rfl, rfl, hr⟩
  show P0 _ _ _ _ (39, [some (.ref 0), some (.int who), some (.ref 5)], [], [pO 1 [.ref 1, .ref 2, .ref 3, .ref 4, .int (nI (Mx (tB al sy who) 6 h0))], pI 96 al, pI 28 wy, pI 28 (boV (tB al sy who) mo), pI 28 he2, pI 96 sy]) _
  refine P0.b GX2_mostToldAlike 2 (ob := []) (cf' := (43, [some (.ref 0), some (.int who), some (.ref 5)], [.int (nI (Mx (tB al sy who) 6 h0))], [pO 1 [.ref 1, .ref 2, .ref 3, .ref 4, .int (nI (Mx (tB al sy who) 6 h0))], pI 96 al, pI 28 wy, pI 28 (boV (tB al sy who) mo), pI 28 he2, pI 96 sy])) rfl trivial ?_
  exact P0.ri (by decide +kernel) rfl rfl ⟨he2, rfl, rfl⟩
