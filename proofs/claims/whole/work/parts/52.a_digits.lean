/-! ===== laid by program (wip/tools) ===== -/
/-- the doing of the life k of those that live on: the first by which there are more than are ahead -/
def dgF (F : Nat → Nat → Nat → Bool) (s l : Nat) : Nat → Nat → Nat → Nat × Nat
  | 0, d, b => (d, b)
  | n + 1, d, b => if d < 3 then (if b < wadd F s l d then (d, b) else dgF F s l n (d + 1) (b - wadd F s l d)) else (d, b)
theorem dgF_lt {F : Nat → Nat → Nat → Bool} {s l : Nat} : ∀ n d b, d < 4 → (dgF F s l n d b).1 < 4 ∧ (dgF F s l n d b).2 ≤ b
  | 0, d, b, h => ⟨h, Nat.le_refl _⟩
  | n + 1, d, b, h => by
    unfold dgF
    split
    · split
      · exact ⟨h, Nat.le_refl _⟩
      · have := dgF_lt (F := F) (s := s) (l := l) n (d + 1) (b - wadd F s l d) (by omega)
        exact ⟨this.1, Nat.le_trans this.2 (Nat.sub_le _ _)⟩
    · exact ⟨h, Nat.le_refl _⟩
abbrev DG : Type := Nat × Int32 × Nat
def dgS (F : Nat → Nat → Nat → Bool) : Nat → DG → DG := fun s p => ((dgF F s p.2.2 3 0 p.1).2, p.2.1 * 10 + nI (dgF F s p.2.2 3 0 p.1).1 + 1, (dgF F s p.2.2 3 0 p.1).1)
def dgN (F : Nat → Nat → Nat → Bool) (k : Nat) (n : Nat) : DG := it (dgS F) n (k, 0, 0)
theorem dgN_lt (F : Nat → Nat → Nat → Bool) (k : Nat) : ∀ n, (dgN F k n).1 ≤ k ∧ (dgN F k n).2.2 < 4
  | 0 => ⟨Nat.le_refl _, by show 0 < 4; decide⟩
  | n + 1 => by
    have h := dgN_lt F k n
    have h2 := dgF_lt (F := F) (s := n) (l := (dgN F k n).2.2) 3 0 (dgN F k n).1 (by decide)
    exact ⟨Nat.le_trans h2.2 h.1, h2.1⟩
/-- what a doing weighs from a step on -/
def wtB (wt : Nat → Int32) (mo : Nat → Int32) (s l d : Nat) : Int32 := wt ((s * 4 + l) * 4 + d) + mo ((s + 1) * 4 + d)
def hvF (F : Nat → Nat → Nat → Bool) (wt mo : Nat → Int32) (s l : Nat) : Nat → Int32 × Int32 → Int32 × Int32 := fun d p => if 0 < wadd F s l d then (if p.1 = -1 then (nI d, wtB wt mo s l d) else if wtB wt mo s l d ≤ p.2 then p else (nI d, wtB wt mo s l d)) else p
def hvP (F : Nat → Nat → Nat → Bool) (wt mo : Nat → Int32) (s l : Nat) : Int32 × Int32 := it (hvF F wt mo s l) 4 (-1, 0)
section HV
variable {F : Nat → Nat → Nat → Bool} {wt mo : Nat → Int32} {s l d : Nat} {p : Int32 × Int32}
theorem hv_a (h : nI (wadd F s l d) ≤ 0) : p = hvF F wt mo s l d p := by
  refine (if_neg (fun z => absurd h (nI_nle z ?_))).symm
  have := wadd_le F s l d
  omega
theorem wadd_pos (h : ¬ nI (wadd F s l d) ≤ 0) : 0 < wadd F s l d := Nat.pos_of_ne_zero (fun z => h (by rw [z]; decide))
theorem hv_b (h : ¬ nI (wadd F s l d) ≤ 0) (h2 : p.1 = -1) : (nI d, wtB wt mo s l d) = hvF F wt mo s l d p := by unfold hvF; rw [if_pos (wadd_pos h), if_pos h2]
theorem hv_c (h : ¬ nI (wadd F s l d) ≤ 0) (h2 : ¬ p.1 = -1) (h3 : wtB wt mo s l d ≤ p.2) : p = hvF F wt mo s l d p := by unfold hvF; rw [if_pos (wadd_pos h), if_neg h2, if_pos h3]
theorem hv_d (h : ¬ nI (wadd F s l d) ≤ 0) (h2 : ¬ p.1 = -1) (h3 : ¬ wtB wt mo s l d ≤ p.2) : (nI d, wtB wt mo s l d) = hvF F wt mo s l d p := by unfold hvF; rw [if_pos (wadd_pos h), if_neg h2, if_neg h3]
end HV
theorem hvP_at (F : Nat → Nat → Nat → Bool) (wt mo : Nat → Int32) (s l : Nat) : (hvP F wt mo s l).1 = -1 ∨ ∃ d, d < 4 ∧ hvP F wt mo s l = (nI d, wtB wt mo s l d) := by
  have h := it_inv (f := hvF F wt mo s l) (a := ((-1 : Int32), (0 : Int32))) (P := fun n p => p.1 = -1 ∨ ∃ d, d < 4 ∧ p = (nI d, wtB wt mo s l d)) (Or.inl rfl) 4 (fun d p hd hP => by
    unfold hvF
    split
    · split
      · exact Or.inr ⟨d, hd, rfl⟩
      · split
        · exact hP
        · exact Or.inr ⟨d, hd, rfl⟩
    · exact hP)
  exact h
/-- the most that may be weighed, so many steps being left -/
def mWn (F : Nat → Nat → Nat → Bool) (wt : Nat → Int32) : Nat → Nat → Int32
  | 0, _ => 0
  | r + 1, l => let p := it (fun d p => if 0 < wadd F (5 - r) l d then (if p.1 = -1 then (nI d, wt (((5 - r) * 4 + l) * 4 + d) + mWn F wt r d) else if wt (((5 - r) * 4 + l) * 4 + d) + mWn F wt r d ≤ p.2 then p else (nI d, wt (((5 - r) * 4 + l) * 4 + d) + mWn F wt r d)) else p) 4 ((-1 : Int32), (0 : Int32)); if p.1 = -1 then 0 else p.2
def MP (F : Nat → Nat → Nat → Bool) (wt m0 mo : Nat → Int32) (j : Nat) : Prop := (∀ x, j ≤ x → x < 28 → mo x = mWn F wt (6 - x / 4) (x % 4)) ∧ ∀ x, 28 ≤ x → mo x = m0 x
def moV (F : Nat → Nat → Nat → Bool) (wt m0 : Nat → Int32) : Nat → Int32 := fun x => if x < 28 then mWn F wt (6 - x / 4) (x % 4) else m0 x
theorem MP.fin {F : Nat → Nat → Nat → Bool} {wt m0 mo : Nat → Int32} (h : MP F wt m0 mo 0) : mo = moV F wt m0 := by
  funext x
  unfold moV
  split
  · exact h.1 x (Nat.zero_le x) (by assumption)
  · exact h.2 x (by omega)
theorem moV_MP {F : Nat → Nat → Nat → Bool} {wt m0 : Nat → Int32} : MP F wt m0 (moV F wt m0) 0 := ⟨fun x _ h => if_pos h, fun x h => if_neg (by omega)⟩
theorem filV_MP {F : Nat → Nat → Nat → Bool} {wt m0 : Nat → Int32} : MP F wt m0 (filV m0 28 0) 24 := by
  refine ⟨fun x h1 h2 => ?_, fun x h => if_neg (by omega)⟩
  rw [show 6 - x / 4 = 0 by omega]
  exact if_pos h2
theorem hvP_mW {F : Nat → Nat → Nat → Bool} {wt m0 mo : Nat → Int32} {s l j : Nat} (hs : s < 6) (hl : l < 4) (hj : j ≤ (s + 1) * 4) (h : MP F wt m0 mo j) : (if (hvP F wt mo s l).1 = -1 then 0 else (hvP F wt mo s l).2) = mWn F wt (6 - s) l := by
  rw [show 6 - s = (5 - s) + 1 by omega]
  have e : hvP F wt mo s l = it (fun d p => if 0 < wadd F (5 - (5 - s)) l d then (if p.1 = -1 then (nI d, wt (((5 - (5 - s)) * 4 + l) * 4 + d) + mWn F wt (5 - s) d) else if wt (((5 - (5 - s)) * 4 + l) * 4 + d) + mWn F wt (5 - s) d ≤ p.2 then p else (nI d, wt (((5 - (5 - s)) * 4 + l) * 4 + d) + mWn F wt (5 - s) d)) else p) 4 ((-1 : Int32), (0 : Int32)) := by
    unfold hvP
    refine it_congr 4 (fun d p hd => ?_)
    have e2 : wtB wt mo s l d = wt ((s * 4 + l) * 4 + d) + mWn F wt (5 - s) d := by
      unfold wtB
      rw [h.1 _ (by omega) (by omega), show ((s + 1) * 4 + d) / 4 = s + 1 by omega, show ((s + 1) * 4 + d) % 4 = d by omega, show 6 - (s + 1) = 5 - s by omega]
    unfold hvF
    rw [e2, show 5 - (5 - s) = s by omega]
  rw [e]
  rfl
theorem MP.step {F : Nat → Nat → Nat → Bool} {wt m0 mo : Nat → Int32} {i : Nat} {x : Int32} (hi : i < 24) (h : MP F wt m0 mo (i + 1)) (hx : x = if (hvP F wt mo (i / 4) (i % 4)).1 = -1 then 0 else (hvP F wt mo (i / 4) (i % 4)).2) : MP F wt m0 (upd mo i x) i := by
  refine ⟨fun y h1 h2 => ?_, fun y hy => by rw [pk_un (by omega)]; exact h.2 y hy⟩
  by_cases e : y = i
  · rw [e, pk_us, hx, hvP_mW (by omega) (by omega) (by omega) h]
  · rw [pk_un e]; exact h.1 y (by omega) h2
theorem nI_ne1 {d : Nat} (h : d < 4) : ¬ nI d = -1 := by
  have : ∀ d, d < 4 → ¬ nI d = -1 := by decide +kernel
  exact this d h
/-- the first life that weighs most, its digits: one by one -/
def dmS (F : Nat → Nat → Nat → Bool) (wt mo : Nat → Int32) : Nat → Int32 × Nat → Int32 × Nat := fun s p =>
  let d := (if (hvP F wt mo s p.2).1 = -1 then 0 else (hvP F wt mo s p.2).1).toNatClampNeg
  (p.1 * 10 + nI d + 1, d)
def dmN (F : Nat → Nat → Nat → Bool) (wt mo : Nat → Int32) (n : Nat) : Int32 × Nat := it (dmS F wt mo) n (0, 0)
theorem dm_lt (F : Nat → Nat → Nat → Bool) (wt mo : Nat → Int32) (s l : Nat) : (if (hvP F wt mo s l).1 = -1 then 0 else (hvP F wt mo s l).1).toNatClampNeg < 4 := by
  rcases hvP_at F wt mo s l with h | ⟨d, hd, h⟩
  · rw [if_pos h]; decide
  · rw [h, if_neg (nI_ne1 hd), nI_clamp (by omega)]; exact hd
theorem dm_1 {F : Nat → Nat → Nat → Bool} {wt mo : Nat → Int32} {s : Nat} : (dmN F wt mo s).1 * 10 + nI (if (hvP F wt mo s (dmN F wt mo s).2).1 = -1 then 0 else (hvP F wt mo s (dmN F wt mo s).2).1).toNatClampNeg + 1 = (dmN F wt mo (s + 1)).1 := by
  unfold dmN
  rw [it_succ]
  rfl
theorem dm_2 {F : Nat → Nat → Nat → Bool} {wt mo : Nat → Int32} {s : Nat} : (if (hvP F wt mo s (dmN F wt mo s).2).1 = -1 then 0 else (hvP F wt mo s (dmN F wt mo s).2).1).toNatClampNeg = (dmN F wt mo (s + 1)).2 := by
  unfold dmN
  rw [it_succ]
  rfl
theorem dmN_lt (F : Nat → Nat → Nat → Bool) (wt mo : Nat → Int32) : ∀ n, (dmN F wt mo n).2 < 4
  | 0 => by show 0 < 4; decide
  | n + 1 => dm_lt F wt mo n _
theorem dm_max (F : Nat → Nat → Nat → Bool) (wt mo : Nat → Int32) (s l : Nat) : (if 0 < (hvP F wt mo s l).1 then (hvP F wt mo s l).1 else 0) = nI (if (hvP F wt mo s l).1 = -1 then 0 else (hvP F wt mo s l).1).toNatClampNeg := by
  rcases hvP_at F wt mo s l with h | ⟨d, hd, h⟩
  · rw [h, if_pos rfl]; decide
  · rw [h]
    have : ∀ d, d < 4 → (if 0 < nI d then nI d else 0) = nI (if nI d = -1 then 0 else nI d).toNatClampNeg := by decide +kernel
    exact this d hd
set_option maxHeartbeats 1000000 in
theorem digits_neg {al wy mo he : Nat → Int32} {fo : Int32} (who k : Int32) (hk : k < 0) : P0 4 0 0 mX2_digitsOf (0, ent 9 [.ref 0, .int who, .int k], [], [pO 1 [.ref 1, .ref 2, .ref 3, .ref 4, .int fo], pI 96 al, pI 28 wy, pI 28 mo, pI 28 he]) (fun r h' => r = some (.int (-1)) ∧ h' = [pO 1 [.ref 1, .ref 2, .ref 3, .ref 4, .int fo], pI 96 al, pI 28 wy, pI 28 mo, pI 28 he]) := by
  refine P0.b GX2_digitsOf 2 (ob := []) (cf' := (if k < 0 then 13 else 4, [some (.ref 0), some (.int who), some (.int k), none, none, none, none, none, none], [], [pO 1 [.ref 1, .ref 2, .ref 3, .ref 4, .int fo], pI 96 al, pI 28 wy, pI 28 mo, pI 28 he])) rfl trivial ?_
  rw [if_pos (show k < 0 from hk)]
  refine P0.b GX2_digitsOf 1 (ob := []) (cf' := (14, [some (.ref 0), some (.int who), some (.int k), none, none, none, none, none, none], [.int (-1)], [pO 1 [.ref 1, .ref 2, .ref 3, .ref 4, .int fo], pI 96 al, pI 28 wy, pI 28 mo, pI 28 he])) rfl trivial ?_
  exact P0.ri (by decide +kernel) rfl rfl ⟨rfl, rfl⟩
set_option maxHeartbeats 1000000 in
theorem digits_out {al wy mo he : Nat → Int32} {fo : Int32} (who : Int32) {K : Nat} (hK : K < 2 ^ 31) (h : Wn (fb al who) 6 0 ≤ K) : P0 4 0 0 mX2_digitsOf (0, ent 9 [.ref 0, .int who, .int (nI K)], [], [pO 1 [.ref 1, .ref 2, .ref 3, .ref 4, .int fo], pI 96 al, pI 28 wy, pI 28 mo, pI 28 he]) (fun r h' => r = some (.int (-1)) ∧ h' = [pO 1 [.ref 1, .ref 2, .ref 3, .ref 4, .int fo], pI 96 al, pI 28 (wyV (fb al who) wy), pI 28 mo, pI 28 he]) := by
  refine P0.b GX2_digitsOf 2 (ob := []) (cf' := (if nI K < 0 then 13 else 4, [some (.ref 0), some (.int who), some (.int (nI K)), none, none, none, none, none, none], [], [pO 1 [.ref 1, .ref 2, .ref 3, .ref 4, .int fo], pI 96 al, pI 28 wy, pI 28 mo, pI 28 he])) rfl trivial ?_
  rw [if_neg (show ¬ (nI K < 0) from nI_pos hK)]
  refine P0.b GX2_digitsOf 3 (ob := []) (cf' := (7, [some (.ref 0), some (.int who), some (.int (nI K)), none, none, none, none, none, none], [.int who, .ref 0, .int (nI K)], [pO 1 [.ref 1, .ref 2, .ref 3, .ref 4, .int fo], pI 96 al, pI 28 wy, pI 28 mo, pI 28 he])) rfl trivial ?_
  refine P0.cd (d0 := 3) (as := [.ref 0, .int who]) (rest := [.int (nI K)]) (r1 := some (.int (nI (Wn (fb al who) 6 0)))) (h1 := [pO 1 [.ref 1, .ref 2, .ref 3, .ref 4, .int fo], pI 96 al, pI 28 (wyV (fb al who) wy), pI 28 mo, pI 28 he]) (st' := [.int (nI (Wn (fb al who) 6 0)), .int (nI K)]) GX2_fitting kX2_digitsOf_7 rfl ⟨_, _, rfl, rfl, .inl ⟨_, _, _, _, rfl, rfl⟩⟩ (Nat.le_of_ble_eq_true rfl) (Nat.le_of_ble_eq_true rfl) (fitting_n who) (Nat.le_of_ble_eq_true rfl) rfl (Nat.le_of_ble_eq_true rfl) rfl ?_
  refine P0.b GX2_digitsOf 1 (ob := []) (cf' := (if nI K < nI (Wn (fb al who) 6 0) then 15 else 13, [some (.ref 0), some (.int who), some (.int (nI K)), none, none, none, none, none, none], [], [pO 1 [.ref 1, .ref 2, .ref 3, .ref 4, .int fo], pI 96 al, pI 28 (wyV (fb al who) wy), pI 28 mo, pI 28 he])) rfl trivial ?_
  rw [if_neg (show ¬ (nI K < nI (Wn (fb al who) 6 0)) from nI_nlt h (by omega))]
  refine P0.b GX2_digitsOf 1 (ob := []) (cf' := (14, [some (.ref 0), some (.int who), some (.int (nI K)), none, none, none, none, none, none], [.int (-1)], [pO 1 [.ref 1, .ref 2, .ref 3, .ref 4, .int fo], pI 96 al, pI 28 (wyV (fb al who) wy), pI 28 mo, pI 28 he])) rfl trivial ?_
  exact P0.ri (by decide +kernel) rfl rfl ⟨rfl, rfl⟩
set_option maxHeartbeats 1000000 in
theorem lp_dg {al w0 mo he : Nat → Int32} {fo : Int32} {who : Int32} {K s l : Nat} {dig : Int32} {p : Nat × Nat} {Q : Option Value → PH → Prop} (hs : s < 6) (hl : l < 4) (hQ : P0 4 0 0 mX2_digitsOf (85, [some (.ref 0), some (.int who), some (.int (nI K)), some (.int (nI p.2)), some (.int dig), some (.int (nI l)), some (.int (nI s)), some (.int (nI p.1)), some (.int (nI (wadd (fb al who) s l p.1)))], [], [pO 1 [.ref 1, .ref 2, .ref 3, .ref 4, .int fo], pI 96 al, pI 28 (wyV (fb al who) w0), pI 28 mo, pI 28 he]) Q) : ∀ (n d b : Nat), d + n = 3 → b ≤ 4096 → dgF (fb al who) s l n d b = p → P0 4 0 0 mX2_digitsOf (49, [some (.ref 0), some (.int who), some (.int (nI K)), some (.int (nI b)), some (.int dig), some (.int (nI l)), some (.int (nI s)), some (.int (nI d)), some (.int (nI (wadd (fb al who) s l d)))], [], [pO 1 [.ref 1, .ref 2, .ref 3, .ref 4, .int fo], pI 96 al, pI 28 (wyV (fb al who) w0), pI 28 mo, pI 28 he]) Q
  | 0, d, b, hd, hb, hE => by
    refine P0.b GX2_digitsOf 3 (ob := []) (cf' := (if 3 ≤ nI d then 85 else 55, [some (.ref 0), some (.int who), some (.int (nI K)), some (.int (nI b)), some (.int dig), some (.int (nI l)), some (.int (nI s)), some (.int (nI d)), some (.int (nI (wadd (fb al who) s l d)))], [], [pO 1 [.ref 1, .ref 2, .ref 3, .ref 4, .int fo], pI 96 al, pI 28 (wyV (fb al who) w0), pI 28 mo, pI 28 he])) rfl trivial ?_
    rw [if_pos (show 3 ≤ nI d from by rw [show d = 3 by omega]; decide)]
    have hE2 : (d, b) = p := hE
    subst hE2
    exact hQ
  | n + 1, d, b, hd, hb, hE => by
    refine P0.b GX2_digitsOf 3 (ob := []) (cf' := (if 3 ≤ nI d then 85 else 55, [some (.ref 0), some (.int who), some (.int (nI K)), some (.int (nI b)), some (.int dig), some (.int (nI l)), some (.int (nI s)), some (.int (nI d)), some (.int (nI (wadd (fb al who) s l d)))], [], [pO 1 [.ref 1, .ref 2, .ref 3, .ref 4, .int fo], pI 96 al, pI 28 (wyV (fb al who) w0), pI 28 mo, pI 28 he])) rfl trivial ?_
    rw [if_neg (show ¬ (3 ≤ nI d) from nI_ge (b := 3) (by omega) (by decide))]
    refine P0.b GX2_digitsOf 3 (ob := []) (cf' := (if nI b < nI (wadd (fb al who) s l d) then 85 else 61, [some (.ref 0), some (.int who), some (.int (nI K)), some (.int (nI b)), some (.int dig), some (.int (nI l)), some (.int (nI s)), some (.int (nI d)), some (.int (nI (wadd (fb al who) s l d)))], [], [pO 1 [.ref 1, .ref 2, .ref 3, .ref 4, .int fo], pI 96 al, pI 28 (wyV (fb al who) w0), pI 28 mo, pI 28 he])) rfl trivial ?_
    refine P0.if (fun h1 => ?_) (fun h1 => ?_)
    · have hE2 : (d, b) = p := by unfold dgF at hE; rw [if_pos (show d < 3 by omega), if_pos (show b < wadd (fb al who) s l d from (nI_ltI (by omega) (by have := wadd_le (fb al who) s l d; omega)).mp h1)] at hE; exact hE
      subst hE2
      exact hQ
    · refine P0.b GX2_digitsOf 8 (ob := []) (cf' := (73, [some (.ref 0), some (.int who), some (.int (nI K)), some (.int ((nI b) - (nI (wadd (fb al who) s l d)))), some (.int dig), some (.int (nI l)), some (.int (nI s)), some (.int ((nI d) + 1)), some (.int (nI (wadd (fb al who) s l d)))], [.int (nI s), .int who, .ref 0], [pO 1 [.ref 1, .ref 2, .ref 3, .ref 4, .int fo], pI 96 al, pI 28 (wyV (fb al who) w0), pI 28 mo, pI 28 he])) rfl trivial ?_
      rw [show (nI b) - (nI (wadd (fb al who) s l d)) = nI (b - (wadd (fb al who) s l d)) from pk_sub (Nat.le_of_not_lt (fun z => h1 (nI_lt z (by have := wadd_le (fb al who) s l d; omega))))]
      rw [show (nI d) + 1 = nI (d + 1) from nI_add _ _]
      refine P0.b GX2_digitsOf 2 (ob := []) (cf' := (77, [some (.ref 0), some (.int who), some (.int (nI K)), some (.int (nI (b - (wadd (fb al who) s l d)))), some (.int dig), some (.int (nI l)), some (.int (nI s)), some (.int (nI (d + 1))), some (.int (nI (wadd (fb al who) s l d)))], [.int (nI (d + 1)), .int (nI l), .int (nI s), .int who, .ref 0], [pO 1 [.ref 1, .ref 2, .ref 3, .ref 4, .int fo], pI 96 al, pI 28 (wyV (fb al who) w0), pI 28 mo, pI 28 he])) rfl trivial ?_
      refine P0.cd (d0 := 2) (as := [.ref 0, .int who, .int (nI s), .int (nI l), .int (nI (d + 1))]) (rest := []) (r1 := some (.int (nI (wadd (fb al who) s l (d + 1))))) (h1 := [pO 1 [.ref 1, .ref 2, .ref 3, .ref 4, .int fo], pI 96 al, pI 28 (wyV (fb al who) w0), pI 28 mo, pI 28 he]) (st' := [.int (nI (wadd (fb al who) s l (d + 1)))]) GX2_waysBy kX2_digitsOf_77 rfl ⟨_, _, rfl, rfl, .inl ⟨_, _, _, _, rfl, rfl⟩⟩ (Nat.le_of_ble_eq_true rfl) (Nat.le_of_ble_eq_true rfl) (ways_W who (s := s) (l := l) (d := d + 1) (by omega) (by omega) (by omega)) (Nat.le_of_ble_eq_true rfl) rfl (Nat.le_of_ble_eq_true rfl) rfl ?_
      refine P0.b GX2_digitsOf 2 (ob := []) (cf' := (49, [some (.ref 0), some (.int who), some (.int (nI K)), some (.int (nI (b - (wadd (fb al who) s l d)))), some (.int dig), some (.int (nI l)), some (.int (nI s)), some (.int (nI (d + 1))), some (.int (nI (wadd (fb al who) s l (d + 1))))], [], [pO 1 [.ref 1, .ref 2, .ref 3, .ref 4, .int fo], pI 96 al, pI 28 (wyV (fb al who) w0), pI 28 mo, pI 28 he])) rfl trivial ?_
      exact lp_dg hs hl hQ n (d + 1) (b - wadd (fb al who) s l d) (by omega) (by omega) (by unfold dgF at hE; rw [if_pos (show d < 3 by omega), if_neg (show ¬ b < wadd (fb al who) s l d from fun z => h1 (nI_lt z (by have := wadd_le (fb al who) s l d; omega)))] at hE; exact hE)
set_option maxHeartbeats 1000000 in
theorem digits_n {al wy mo he : Nat → Int32} {fo : Int32} (who : Int32) {K : Nat} (h : K < Wn (fb al who) 6 0) : P0 4 0 0 mX2_digitsOf (0, ent 9 [.ref 0, .int who, .int (nI K)], [], [pO 1 [.ref 1, .ref 2, .ref 3, .ref 4, .int fo], pI 96 al, pI 28 wy, pI 28 mo, pI 28 he]) (fun r h' => r = some (.int (dgN (fb al who) K 6).2.1) ∧ h' = [pO 1 [.ref 1, .ref 2, .ref 3, .ref 4, .int fo], pI 96 al, pI 28 (wyV (fb al who) wy), pI 28 mo, pI 28 he]) := by
  refine P0.b GX2_digitsOf 2 (ob := []) (cf' := (if nI K < 0 then 13 else 4, [some (.ref 0), some (.int who), some (.int (nI K)), none, none, none, none, none, none], [], [pO 1 [.ref 1, .ref 2, .ref 3, .ref 4, .int fo], pI 96 al, pI 28 wy, pI 28 mo, pI 28 he])) rfl trivial ?_
  rw [if_neg (show ¬ (nI K < 0) from nI_pos (by have := Wn_le6 (fb al who) (show 6 ≤ 6 by omega) 0; omega))]
  refine P0.b GX2_digitsOf 3 (ob := []) (cf' := (7, [some (.ref 0), some (.int who), some (.int (nI K)), none, none, none, none, none, none], [.int who, .ref 0, .int (nI K)], [pO 1 [.ref 1, .ref 2, .ref 3, .ref 4, .int fo], pI 96 al, pI 28 wy, pI 28 mo, pI 28 he])) rfl trivial ?_
  refine P0.cd (d0 := 3) (as := [.ref 0, .int who]) (rest := [.int (nI K)]) (r1 := some (.int (nI (Wn (fb al who) 6 0)))) (h1 := [pO 1 [.ref 1, .ref 2, .ref 3, .ref 4, .int fo], pI 96 al, pI 28 (wyV (fb al who) wy), pI 28 mo, pI 28 he]) (st' := [.int (nI (Wn (fb al who) 6 0)), .int (nI K)]) GX2_fitting kX2_digitsOf_7 rfl ⟨_, _, rfl, rfl, .inl ⟨_, _, _, _, rfl, rfl⟩⟩ (Nat.le_of_ble_eq_true rfl) (Nat.le_of_ble_eq_true rfl) (fitting_n who) (Nat.le_of_ble_eq_true rfl) rfl (Nat.le_of_ble_eq_true rfl) rfl ?_
  refine P0.b GX2_digitsOf 1 (ob := []) (cf' := (if nI K < nI (Wn (fb al who) 6 0) then 15 else 13, [some (.ref 0), some (.int who), some (.int (nI K)), none, none, none, none, none, none], [], [pO 1 [.ref 1, .ref 2, .ref 3, .ref 4, .int fo], pI 96 al, pI 28 (wyV (fb al who) wy), pI 28 mo, pI 28 he])) rfl trivial ?_
  rw [if_pos (show nI K < nI (Wn (fb al who) 6 0) from nI_lt h (by have := Wn_le6 (fb al who) (show 6 ≤ 6 by omega) 0; omega))]
  refine P0.b GX2_digitsOf 8 (ob := []) (cf' := (26, [some (.ref 0), some (.int who), some (.int (nI K)), some (.int (nI K)), some (.int 0), some (.int 0), some (.int 0), none, none], [], [pO 1 [.ref 1, .ref 2, .ref 3, .ref 4, .int fo], pI 96 al, pI 28 (wyV (fb al who) wy), pI 28 mo, pI 28 he])) rfl trivial ?_
  refine P0.loopJ (N := 6) (fun _ (_ : Unit) => True) (fun i _ => (26, [some (.ref 0), some (.int who), some (.int (nI K)), some (.int (nI (dgN (fb al who) K i).1)), some (.int ((dgN (fb al who) K i).2.1)), some (.int (nI (dgN (fb al who) K i).2.2)), some (.int (nI i)), none, none], [], [pO 1 [.ref 1, .ref 2, .ref 3, .ref 4, .int fo], pI 96 al, pI 28 (wyV (fb al who) wy), pI 28 mo, pI 28 he])) (fun i133 _ hi133 hI133 hk133 => ?_) (fun _ hI133 => ?_) () trivial
  · show P0 _ _ _ _ (26, [some (.ref 0), some (.int who), some (.int (nI K)), some (.int (nI (dgN (fb al who) K i133).1)), some (.int ((dgN (fb al who) K i133).2.1)), some (.int (nI (dgN (fb al who) K i133).2.2)), some (.int (nI i133)), none, none], [], [pO 1 [.ref 1, .ref 2, .ref 3, .ref 4, .int fo], pI 96 al, pI 28 (wyV (fb al who) wy), pI 28 mo, pI 28 he]) _
    have hDi133 := dgN_lt (fb al who) K i133
    refine P0.b GX2_digitsOf 3 (ob := []) (cf' := (if 6 ≤ nI i133 then 107 else 33, [some (.ref 0), some (.int who), some (.int (nI K)), some (.int (nI (dgN (fb al who) K i133).1)), some (.int ((dgN (fb al who) K i133).2.1)), some (.int (nI (dgN (fb al who) K i133).2.2)), some (.int (nI i133)), none, none], [], [pO 1 [.ref 1, .ref 2, .ref 3, .ref 4, .int fo], pI 96 al, pI 28 (wyV (fb al who) wy), pI 28 mo, pI 28 he])) rfl trivial ?_
    rw [if_neg (show ¬ (6 ≤ nI i133) from nI_ge (b := 6) (by omega) (by decide))]
    refine P0.b GX2_digitsOf 7 (ob := []) (cf' := (44, [some (.ref 0), some (.int who), some (.int (nI K)), some (.int (nI (dgN (fb al who) K i133).1)), some (.int ((dgN (fb al who) K i133).2.1)), some (.int (nI (dgN (fb al who) K i133).2.2)), some (.int (nI i133)), some (.int 0), none], [.int 0, .int (nI (dgN (fb al who) K i133).2.2), .int (nI i133), .int who, .ref 0], [pO 1 [.ref 1, .ref 2, .ref 3, .ref 4, .int fo], pI 96 al, pI 28 (wyV (fb al who) wy), pI 28 mo, pI 28 he])) rfl trivial ?_
    refine P0.cd (d0 := 2) (as := [.ref 0, .int who, .int (nI i133), .int (nI (dgN (fb al who) K i133).2.2), .int 0]) (rest := []) (r1 := some (.int (nI (wadd (fb al who) i133 ((dgN (fb al who) K i133).2.2) 0)))) (h1 := [pO 1 [.ref 1, .ref 2, .ref 3, .ref 4, .int fo], pI 96 al, pI 28 (wyV (fb al who) wy), pI 28 mo, pI 28 he]) (st' := [.int (nI (wadd (fb al who) i133 ((dgN (fb al who) K i133).2.2) 0))]) GX2_waysBy kX2_digitsOf_44 rfl ⟨_, _, rfl, rfl, .inl ⟨_, _, _, _, rfl, rfl⟩⟩ (Nat.le_of_ble_eq_true rfl) (Nat.le_of_ble_eq_true rfl) (ways_W who (s := i133) (l := (dgN (fb al who) K i133).2.2) (d := 0) (by omega) (by omega) (by omega)) (Nat.le_of_ble_eq_true rfl) rfl (Nat.le_of_ble_eq_true rfl) rfl ?_
    refine P0.b GX2_digitsOf 1 (ob := []) (cf' := (49, [some (.ref 0), some (.int who), some (.int (nI K)), some (.int (nI (dgN (fb al who) K i133).1)), some (.int ((dgN (fb al who) K i133).2.1)), some (.int (nI (dgN (fb al who) K i133).2.2)), some (.int (nI i133)), some (.int 0), some (.int (nI (wadd (fb al who) i133 ((dgN (fb al who) K i133).2.2) 0)))], [], [pO 1 [.ref 1, .ref 2, .ref 3, .ref 4, .int fo], pI 96 al, pI 28 (wyV (fb al who) wy), pI 28 mo, pI 28 he])) rfl trivial ?_
    refine lp_dg (w0 := wy) (s := i133) (l := (dgN (fb al who) K i133).2.2) (by omega) hDi133.2 ?_ 3 0 (dgN (fb al who) K i133).1 (by omega) (by have := Wn_le6 (fb al who) (show 6 ≤ 6 by omega) 0; omega) rfl
    show P0 _ _ _ _ (85, [some (.ref 0), some (.int who), some (.int (nI K)), some (.int (nI (dgF (fb al who) i133 (dgN (fb al who) K i133).2.2 3 0 (dgN (fb al who) K i133).1).2)), some (.int ((dgN (fb al who) K i133).2.1)), some (.int (nI (dgN (fb al who) K i133).2.2)), some (.int (nI i133)), some (.int (nI (dgF (fb al who) i133 (dgN (fb al who) K i133).2.2 3 0 (dgN (fb al who) K i133).1).1)), some (.int (nI (wadd (fb al who) i133 (dgN (fb al who) K i133).2.2 (dgF (fb al who) i133 (dgN (fb al who) K i133).2.2 3 0 (dgN (fb al who) K i133).1).1)))], [], [pO 1 [.ref 1, .ref 2, .ref 3, .ref 4, .int fo], pI 96 al, pI 28 (wyV (fb al who) wy), pI 28 mo, pI 28 he]) _
    refine P0.b GX2_digitsOf 8 (ob := []) (cf' := (97, [some (.ref 0), some (.int who), some (.int (nI K)), some (.int (nI (dgF (fb al who) i133 (dgN (fb al who) K i133).2.2 3 0 (dgN (fb al who) K i133).1).2)), some (.int (((((dgN (fb al who) K i133).2.1) * 10) + (nI (dgF (fb al who) i133 (dgN (fb al who) K i133).2.2 3 0 (dgN (fb al who) K i133).1).1)) + 1)), some (.int (nI (dgN (fb al who) K i133).2.2)), some (.int (nI i133)), some (.int (nI (dgF (fb al who) i133 (dgN (fb al who) K i133).2.2 3 0 (dgN (fb al who) K i133).1).1)), some (.int (nI (wadd (fb al who) i133 (dgN (fb al who) K i133).2.2 (dgF (fb al who) i133 (dgN (fb al who) K i133).2.2 3 0 (dgN (fb al who) K i133).1).1)))], [], [pO 1 [.ref 1, .ref 2, .ref 3, .ref 4, .int fo], pI 96 al, pI 28 (wyV (fb al who) wy), pI 28 mo, pI 28 he])) rfl trivial ?_
    refine P0.b GX2_digitsOf 4 (ob := []) (cf' := (26, [some (.ref 0), some (.int who), some (.int (nI K)), some (.int (nI (dgF (fb al who) i133 (dgN (fb al who) K i133).2.2 3 0 (dgN (fb al who) K i133).1).2)), some (.int (((((dgN (fb al who) K i133).2.1) * 10) + (nI (dgF (fb al who) i133 (dgN (fb al who) K i133).2.2 3 0 (dgN (fb al who) K i133).1).1)) + 1)), some (.int (nI (dgF (fb al who) i133 (dgN (fb al who) K i133).2.2 3 0 (dgN (fb al who) K i133).1).1)), some (.int ((nI i133) + 1)), some (.int (nI (dgF (fb al who) i133 (dgN (fb al who) K i133).2.2 3 0 (dgN (fb al who) K i133).1).1)), some (.int (nI (wadd (fb al who) i133 (dgN (fb al who) K i133).2.2 (dgF (fb al who) i133 (dgN (fb al who) K i133).2.2 3 0 (dgN (fb al who) K i133).1).1)))], [], [pO 1 [.ref 1, .ref 2, .ref 3, .ref 4, .int fo], pI 96 al, pI 28 (wyV (fb al who) wy), pI 28 mo, pI 28 he])) rfl trivial ?_
    rw [show (nI i133) + 1 = nI (i133 + 1) from nI_add _ _]
    refine P0.forget (ls' := [some (.ref 0), some (.int who), some (.int (nI K)), some (.int (nI (dgF (fb al who) i133 (dgN (fb al who) K i133).2.2 3 0 (dgN (fb al who) K i133).1).2)), some (.int (((((dgN (fb al who) K i133).2.1) * 10) + (nI (dgF (fb al who) i133 (dgN (fb al who) K i133).2.2 3 0 (dgN (fb al who) K i133).1).1)) + 1)), some (.int (nI (dgF (fb al who) i133 (dgN (fb al who) K i133).2.2 3 0 (dgN (fb al who) K i133).1).1)), some (.int (nI (i133 + 1))), none, none]) ⟨.inr rfl, .inr rfl, .inr rfl, .inr rfl, .inr rfl, .inr rfl, .inr rfl, .inl rfl, .inl rfl, trivial⟩ ?_
    exact hk133 () trivial
  · show P0 _ _ _ _ (26, [some (.ref 0), some (.int who), some (.int (nI K)), some (.int (nI (dgN (fb al who) K 6).1)), some (.int ((dgN (fb al who) K 6).2.1)), some (.int (nI (dgN (fb al who) K 6).2.2)), some (.int (nI 6)), none, none], [], [pO 1 [.ref 1, .ref 2, .ref 3, .ref 4, .int fo], pI 96 al, pI 28 (wyV (fb al who) wy), pI 28 mo, pI 28 he]) _
    refine P0.b GX2_digitsOf 3 (ob := []) (cf' := (if 6 ≤ nI 6 then 107 else 33, [some (.ref 0), some (.int who), some (.int (nI K)), some (.int (nI (dgN (fb al who) K 6).1)), some (.int ((dgN (fb al who) K 6).2.1)), some (.int (nI (dgN (fb al who) K 6).2.2)), some (.int (nI 6)), none, none], [], [pO 1 [.ref 1, .ref 2, .ref 3, .ref 4, .int fo], pI 96 al, pI 28 (wyV (fb al who) wy), pI 28 mo, pI 28 he])) rfl trivial ?_
    rw [if_pos (show 6 ≤ nI 6 from Int32.le_refl _)]
    refine P0.b GX2_digitsOf 1 (ob := []) (cf' := (109, [some (.ref 0), some (.int who), some (.int (nI K)), some (.int (nI (dgN (fb al who) K 6).1)), some (.int ((dgN (fb al who) K 6).2.1)), some (.int (nI (dgN (fb al who) K 6).2.2)), some (.int (nI 6)), none, none], [.int ((dgN (fb al who) K 6).2.1)], [pO 1 [.ref 1, .ref 2, .ref 3, .ref 4, .int fo], pI 96 al, pI 28 (wyV (fb al who) wy), pI 28 mo, pI 28 he])) rfl trivial ?_
    exact P0.ri (by decide +kernel) rfl rfl ⟨rfl, rfl⟩
