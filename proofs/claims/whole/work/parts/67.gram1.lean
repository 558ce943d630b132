/-! ===== laid by program (wip/tools) ===== -/
/-- the reader's tokens: K the last -/
def RW (B sgn pl : Nat → Int32) (K : Nat) : Prop := K ≤ 160 ∧ ScP B sgn pl K ∧ sgn K = sg B (ps B K) ∧ pl K = nI (ps B K) ∧ (sg B (ps B K) = -22 ∨ sg B (ps B K) = -23)
theorem RW.at {B sgn pl : Nat → Int32} {K k : Nat} (h : RW B sgn pl K) (hk : k ≤ K) : sgn k = sg B (ps B k) := by
  rcases Nat.lt_or_ge k K with z | z
  · exact (h.2.1 k z).1
  · rw [show k = K by omega]; exact h.2.2.1
theorem RW.pl {B sgn pl : Nat → Int32} {K k : Nat} (h : RW B sgn pl K) (hk : k ≤ K) : pl k = nI (ps B k) := by
  rcases Nat.lt_or_ge k K with z | z
  · exact (h.2.1 k z).2.1
  · rw [show k = K by omega]; exact h.2.2.2.1
theorem RW.lt {B sgn pl : Nat → Int32} {K k : Nat} (h : RW B sgn pl K) (hk : k ≤ K) (h1 : ¬ sg B (ps B k) = -22) (h2 : ¬ sg B (ps B k) = -23) : k < K := by
  rcases Nat.lt_or_ge k K with z | z
  · exact z
  · rw [show k = K by omega] at h1 h2
    rcases h.2.2.2.2 with y | y
    · exact absurd y h1
    · exact absurd y h2
theorem RW.is {B sgn pl : Nat → Int32} {K k : Nat} {c : Int32} (h : RW B sgn pl K) (hk : k ≤ K) (hc : sg B (ps B k) = c) (h1 : ¬ c = -22) (h2 : ¬ c = -23) : k < K := h.lt hk (by rw [hc]; exact h1) (by rw [hc]; exact h2)
theorem RW.val {B sgn pl : Nat → Int32} {K k : Nat} (h : RW B sgn pl K) (hk : k ≤ K) (hc : -6 ≤ sg B (ps B k)) : k < K := h.lt hk (fun z => by rw [z] at hc; exact absurd hc (by decide)) (fun z => by rw [z] at hc; exact absurd hc (by decide))
/-- x stands in the code from z on -/
def Cd (cd0 : Nat → Int32) (z : Nat) (x : List Int32) (cd : Nat → Int32) : Prop := (∀ i, i < z → cd i = cd0 i) ∧ ∀ i, i < x.length → cd (z + i) = x.getD i 0
theorem Cd.one (cd : Nat → Int32) (z : Nat) (s : Int32) : Cd cd z [s] (upd cd z s) := ⟨fun i hi => pk_un (by omega), fun i hi => by
  have : i = 0 := by simp at hi; omega
  subst this
  rw [Nat.add_zero, pk_us]; rfl⟩
theorem Cd.app {c0 c1 c2 : Nat → Int32} {z : Nat} {x y : List Int32} (h1 : Cd c0 z x c1) (h2 : Cd c1 (z + x.length) y c2) : Cd c0 z (x ++ y) c2 := ⟨fun i hi => (h2.1 i (by omega)).trans (h1.1 i hi), fun i hi => by
  rw [List.length_append] at hi
  rcases Nat.lt_or_ge i x.length with w | w
  · rw [h2.1 _ (by omega), h1.2 i w]
    simp [List.getD, List.getElem?_append_left w]
  · have := h2.2 (i - x.length) (by omega)
    rw [show z + x.length + (i - x.length) = z + i by omega] at this
    rw [this]
    simp [List.getD, List.getElem?_append_right w]⟩
theorem Cd.put {c0 c1 : Nat → Int32} {z : Nat} {x : List Int32} (h1 : Cd c0 z x c1) (s : Int32) : Cd c0 z (x ++ [s]) (upd c1 (z + x.length) s) := h1.app (Cd.one _ _ _)
def cA : ALG (List Int32) := (fun s => [s], fun s x => x ++ [s], fun s x y => x ++ y ++ [s])
section RQ
variable {B sgn pl ed : Nat → Int32} {K : Nat}
/-- the end of a reading method of the class -/
def RQ (B sgn pl ed : Nat → Int32) (K k z : Nat) (cd0 : Nat → Int32) (pr : PR (List Int32)) : Option Value → PH → Prop := fun r h' => match pr with
  | .inl q => ∃ (k' : Nat) (sz : Int32) (cd' : Nat → Int32), k' ≤ K ∧ ps B k' = q ∧ r = some (.int 0) ∧ h' = [pO 3 [.ref 1, .ref 2, .ref 3, .ref 4, .int (nI k'), .int sz], pI 161 sgn, pI 161 pl, pI 160 cd', pI 3 ed]
  | .inr (x, p) => ∃ (k' : Nat) (cd' : Nat → Int32), k' ≤ K ∧ ps B k' = p ∧ k + x.length ≤ k' ∧ Cd cd0 z x cd' ∧ r = some (.int 1) ∧ h' = [pO 3 [.ref 1, .ref 2, .ref 3, .ref 4, .int (nI k'), .int (nI (z + x.length))], pI 161 sgn, pI 161 pl, pI 160 cd', pI 3 ed]
theorem RQ.len {k z : Nat} {cd0 : Nat → Int32} {pr : PR (List Int32)} {r : Option Value} {h' : PH} (h : RQ B sgn pl ed K k z cd0 pr r h') : h'.length = 5 := by
  rcases pr with q | ⟨x, p⟩
  · obtain ⟨_, _, _, _, _, _, rfl⟩ := h; rfl
  · obtain ⟨_, _, _, _, _, _, _, rfl⟩ := h; rfl
theorem RQ.no {k z k' : Nat} {cd0 cd' : Nat → Int32} {sz : Int32} {pr : PR (List Int32)} (h : pr = .inl (ps B k')) (hk : k' ≤ K) : RQ B sgn pl ed K k z cd0 pr (some (.int 0)) ([pO 3 [.ref 1, .ref 2, .ref 3, .ref 4, .int (nI k'), .int sz], pI 161 sgn, pI 161 pl, pI 160 cd', pI 3 ed]) := by
  subst h
  exact ⟨k', sz, cd', hk, rfl, rfl, rfl⟩
theorem RQ.yes {k z k' zz : Nat} {cd0 cd' : Nat → Int32} {x : List Int32} {pr : PR (List Int32)} (h : pr = .inr (x, ps B k')) (hk : k' ≤ K) (hzz : zz = z + x.length) (hkk : k + x.length ≤ k') (hC : Cd cd0 z x cd') : RQ B sgn pl ed K k z cd0 pr (some (.int 1)) ([pO 3 [.ref 1, .ref 2, .ref 3, .ref 4, .int (nI k'), .int (nI zz)], pI 161 sgn, pI 161 pl, pI 160 cd', pI 3 ed]) := by
  subst h
  subst hzz
  exact ⟨k', cd', hk, rfl, hkk, hC, rfl, rfl⟩
end RQ
theorem sign_n {B sgn pl ed : Nat → Int32} {K : Nat} (hW : RW B sgn pl K) {k : Nat} {sz : Int32} {cd : Nat → Int32} (hk : k ≤ K) : P0 0 0 0 mX4_sign (0, ent 1 [.ref 0], [], [pO 3 [.ref 1, .ref 2, .ref 3, .ref 4, .int (nI k), .int sz], pI 161 sgn, pI 161 pl, pI 160 cd, pI 3 ed]) (fun r h' => r = some (.int (sg B (ps B k))) ∧ h' = [pO 3 [.ref 1, .ref 2, .ref 3, .ref 4, .int (nI k), .int sz], pI 161 sgn, pI 161 pl, pI 160 cd, pI 3 ed]) := by
  have hK := hW.1
  refine P0.b GX4_sign 3 (ob := []) (cf' := (if nI k < 0 then 31 else 7, [some (.ref 0)], [], [pO 3 [.ref 1, .ref 2, .ref 3, .ref 4, .int (nI k), .int sz], pI 161 sgn, pI 161 pl, pI 160 cd, pI 3 ed])) rfl trivial ?_
  rw [if_neg (show ¬ (nI k < 0) from nI_pos (by omega))]
  refine P0.b GX4_sign 6 (ob := []) (cf' := (if Int32.ofNat 161 ≤ nI k then 31 else 19, [some (.ref 0)], [], [pO 3 [.ref 1, .ref 2, .ref 3, .ref 4, .int (nI k), .int sz], pI 161 sgn, pI 161 pl, pI 160 cd, pI 3 ed])) rfl trivial ?_
  rw [if_neg (show ¬ (Int32.ofNat 161 ≤ nI k) from nI_ge (b := 161) (by omega) (by decide))]
  refine P0.b GX4_sign 6 (ob := [vp_in (nI k) 161]) (cf' := (33, [some (.ref 0)], [.int (sgn (nI k).toNatClampNeg)], [pO 3 [.ref 1, .ref 2, .ref 3, .ref 4, .int (nI k), .int sz], pI 161 sgn, pI 161 pl, pI 160 cd, pI 3 ed])) rfl ⟨(nI_vp (by omega) (by decide)), trivial⟩ ?_
  rw [show (nI k).toNatClampNeg = k from nI_clamp (by omega)]
  exact P0.ri (by decide +kernel) rfl rfl ⟨by rw [hW.at hk], rfl⟩
theorem take_y {B sgn pl ed : Nat → Int32} {K : Nat} (hW : RW B sgn pl K) {k : Nat} {sz : Int32} {cd : Nat → Int32} {c : Int32} (hk : k ≤ K) (h : sg B (ps B k) = c) : P0 1 0 0 mX4_take (0, ent 2 [.ref 0, .int c], [], [pO 3 [.ref 1, .ref 2, .ref 3, .ref 4, .int (nI k), .int sz], pI 161 sgn, pI 161 pl, pI 160 cd, pI 3 ed]) (fun r h' => r = some (.int 1) ∧ h' = [pO 3 [.ref 1, .ref 2, .ref 3, .ref 4, .int (nI (k + 1)), .int sz], pI 161 sgn, pI 161 pl, pI 160 cd, pI 3 ed]) := by
  have hK := hW.1
  refine P0.b GX4_take 1 (ob := []) (cf' := (1, [some (.ref 0), some (.int c)], [.ref 0], [pO 3 [.ref 1, .ref 2, .ref 3, .ref 4, .int (nI k), .int sz], pI 161 sgn, pI 161 pl, pI 160 cd, pI 3 ed])) rfl trivial ?_
  refine P0.cd (d0 := 0) (as := [.ref 0]) (rest := []) (r1 := some (.int (sg B (ps B k)))) (h1 := [pO 3 [.ref 1, .ref 2, .ref 3, .ref 4, .int (nI k), .int sz], pI 161 sgn, pI 161 pl, pI 160 cd, pI 3 ed]) (st' := [.int (sg B (ps B k))]) GX4_sign kX4_take_1 rfl ⟨_, _, rfl, rfl, .inl ⟨_, _, _, _, rfl, rfl⟩⟩ (Nat.le_of_ble_eq_true rfl) (Nat.le_of_ble_eq_true rfl) (sign_n hW (k := k) (by omega)) (Nat.zero_le _) rfl (Nat.le_of_ble_eq_true rfl) rfl ?_
  refine P0.b GX4_take 2 (ob := []) (cf' := (if sg B (ps B k) = c then 10 else 8, [some (.ref 0), some (.int c)], [], [pO 3 [.ref 1, .ref 2, .ref 3, .ref 4, .int (nI k), .int sz], pI 161 sgn, pI 161 pl, pI 160 cd, pI 3 ed])) rfl trivial ?_
  rw [if_pos (show sg B (ps B k) = c from h)]
  refine P0.b GX4_take 6 (ob := []) (cf' := (20, [some (.ref 0), some (.int c)], [], [pO 3 [.ref 1, .ref 2, .ref 3, .ref 4, .int ((nI k) + 1), .int sz], pI 161 sgn, pI 161 pl, pI 160 cd, pI 3 ed])) rfl trivial ?_
  rw [show (nI k) + 1 = nI (k + 1) from nI_add _ _]
  refine P0.b GX4_take 1 (ob := []) (cf' := (21, [some (.ref 0), some (.int c)], [.int 1], [pO 3 [.ref 1, .ref 2, .ref 3, .ref 4, .int (nI (k + 1)), .int sz], pI 161 sgn, pI 161 pl, pI 160 cd, pI 3 ed])) rfl trivial ?_
  exact P0.ri (by decide +kernel) rfl (by rfl) ⟨rfl, rfl⟩
theorem take_n {B sgn pl ed : Nat → Int32} {K : Nat} (hW : RW B sgn pl K) {k : Nat} {sz : Int32} {cd : Nat → Int32} {c : Int32} (hk : k ≤ K) (h : ¬ sg B (ps B k) = c) : P0 1 0 0 mX4_take (0, ent 2 [.ref 0, .int c], [], [pO 3 [.ref 1, .ref 2, .ref 3, .ref 4, .int (nI k), .int sz], pI 161 sgn, pI 161 pl, pI 160 cd, pI 3 ed]) (fun r h' => r = some (.int 0) ∧ h' = [pO 3 [.ref 1, .ref 2, .ref 3, .ref 4, .int (nI k), .int sz], pI 161 sgn, pI 161 pl, pI 160 cd, pI 3 ed]) := by
  have hK := hW.1
  refine P0.b GX4_take 1 (ob := []) (cf' := (1, [some (.ref 0), some (.int c)], [.ref 0], [pO 3 [.ref 1, .ref 2, .ref 3, .ref 4, .int (nI k), .int sz], pI 161 sgn, pI 161 pl, pI 160 cd, pI 3 ed])) rfl trivial ?_
  refine P0.cd (d0 := 0) (as := [.ref 0]) (rest := []) (r1 := some (.int (sg B (ps B k)))) (h1 := [pO 3 [.ref 1, .ref 2, .ref 3, .ref 4, .int (nI k), .int sz], pI 161 sgn, pI 161 pl, pI 160 cd, pI 3 ed]) (st' := [.int (sg B (ps B k))]) GX4_sign kX4_take_1 rfl ⟨_, _, rfl, rfl, .inl ⟨_, _, _, _, rfl, rfl⟩⟩ (Nat.le_of_ble_eq_true rfl) (Nat.le_of_ble_eq_true rfl) (sign_n hW (k := k) (by omega)) (Nat.zero_le _) rfl (Nat.le_of_ble_eq_true rfl) rfl ?_
  refine P0.b GX4_take 2 (ob := []) (cf' := (if sg B (ps B k) = c then 10 else 8, [some (.ref 0), some (.int c)], [], [pO 3 [.ref 1, .ref 2, .ref 3, .ref 4, .int (nI k), .int sz], pI 161 sgn, pI 161 pl, pI 160 cd, pI 3 ed])) rfl trivial ?_
  rw [if_neg (show ¬ (sg B (ps B k) = c) from h)]
  refine P0.b GX4_take 1 (ob := []) (cf' := (9, [some (.ref 0), some (.int c)], [.int 0], [pO 3 [.ref 1, .ref 2, .ref 3, .ref 4, .int (nI k), .int sz], pI 161 sgn, pI 161 pl, pI 160 cd, pI 3 ed])) rfl trivial ?_
  exact P0.ri (by decide +kernel) rfl (by rfl) ⟨rfl, rfl⟩
theorem emit_n {sgn pl ed cd : Nat → Int32} {z : Nat} {po : Int32} (c : Int32) (hz : z < 160) : P0 1 0 0 mX4_emit (0, ent 2 [.ref 0, .int c], [], [pO 3 [.ref 1, .ref 2, .ref 3, .ref 4, .int po, .int (nI z)], pI 161 sgn, pI 161 pl, pI 160 cd, pI 3 ed]) (fun r h' => r = some (.int 1) ∧ h' = [pO 3 [.ref 1, .ref 2, .ref 3, .ref 4, .int po, .int (nI (z + 1))], pI 161 sgn, pI 161 pl, pI 160 (upd cd z c), pI 3 ed]) := by
  refine P0.b GX4_emit 5 (ob := []) (cf' := (9, [some (.ref 0), some (.int c)], [.int c, .int (nI z), .ref 3], [pO 3 [.ref 1, .ref 2, .ref 3, .ref 4, .int po, .int (nI z)], pI 161 sgn, pI 161 pl, pI 160 cd, pI 3 ed])) rfl trivial ?_
  refine P0.cr (io := [3]) (as := [.ref 0, .int (nI z), .int c]) (rest := []) (hc := [pI 160 cd]) (hc1 := [pI 160 (upd cd z c)]) (r1 := none) (st' := []) (h' := [pO 3 [.ref 1, .ref 2, .ref 3, .ref 4, .int po, .int (nI z)], pI 161 sgn, pI 161 pl, pI 160 (upd cd z c), pI 3 ed]) (d0 := 0) GX5_put kX4_emit_9 rfl rfl (Nat.le_of_ble_eq_true rfl) (Nat.le_of_ble_eq_true rfl) rfl ⟨rfl, trivial⟩ (put_in (n := 160) (by decide) cd (k := z) (by omega) c) (Nat.zero_le _) rfl (Nat.le_of_ble_eq_true rfl) (Nat.le_of_ble_eq_true rfl) rfl rfl ?_
  refine P0.b GX4_emit 6 (ob := []) (cf' := (22, [some (.ref 0), some (.int c)], [], [pO 3 [.ref 1, .ref 2, .ref 3, .ref 4, .int po, .int ((nI z) + 1)], pI 161 sgn, pI 161 pl, pI 160 (upd cd z c), pI 3 ed])) rfl trivial ?_
  rw [show (nI z) + 1 = nI (z + 1) from nI_add _ _]
  refine P0.b GX4_emit 1 (ob := []) (cf' := (23, [some (.ref 0), some (.int c)], [.int 1], [pO 3 [.ref 1, .ref 2, .ref 3, .ref 4, .int po, .int (nI (z + 1))], pI 161 sgn, pI 161 pl, pI 160 (upd cd z c), pI 3 ed])) rfl trivial ?_
  exact P0.ri (by decide +kernel) rfl (by rfl) ⟨rfl, rfl⟩
set_option maxHeartbeats 1000000 in
theorem joins_0 (c : Int32) : P0 0 0 0 mX4_joins (0, ent 2 [.int 0, .int c], [], []) (fun r h' => r = some (.int (if jEith c = true then 1 else 0)) ∧ h' = []) := by
  refine P0.b GX4_joins 2 (ob := []) (cf' := (swT 0 70 [(0, 28), (1, 40), (2, 52)], [some (.int 0), some (.int c)], [], [])) rfl trivial ?_
  rw [show swT (0 : Int32) 70 [(0, 28), (1, 40), (2, 52)] = 28 from by decide +kernel]
  refine P0.b GX4_joins 3 (ob := []) (cf' := (if c = -10 then 34 else 38, [some (.int 0), some (.int c)], [], [])) rfl trivial ?_
  refine P0.if (fun h1 => ?_) (fun h1 => ?_)
  · refine P0.b GX4_joins 2 (ob := []) (cf' := (39, [some (.int 0), some (.int c)], [.int 1], [])) rfl trivial ?_
    exact P0.ri (by decide +kernel) rfl (by rfl) ⟨by simp [jEith, h1], rfl⟩
  · refine P0.b GX4_joins 1 (ob := []) (cf' := (39, [some (.int 0), some (.int c)], [.int 0], [])) rfl trivial ?_
    exact P0.ri (by decide +kernel) rfl (by rfl) ⟨by simp [jEith, h1], rfl⟩
set_option maxHeartbeats 1000000 in
theorem joins_1 (c : Int32) : P0 0 0 0 mX4_joins (0, ent 2 [.int 1, .int c], [], []) (fun r h' => r = some (.int (if jBoth c = true then 1 else 0)) ∧ h' = []) := by
  refine P0.b GX4_joins 2 (ob := []) (cf' := (swT 1 70 [(0, 28), (1, 40), (2, 52)], [some (.int 1), some (.int c)], [], [])) rfl trivial ?_
  rw [show swT (1 : Int32) 70 [(0, 28), (1, 40), (2, 52)] = 40 from by decide +kernel]
  refine P0.b GX4_joins 3 (ob := []) (cf' := (if c = -11 then 46 else 50, [some (.int 1), some (.int c)], [], [])) rfl trivial ?_
  refine P0.if (fun h1 => ?_) (fun h1 => ?_)
  · refine P0.b GX4_joins 2 (ob := []) (cf' := (51, [some (.int 1), some (.int c)], [.int 1], [])) rfl trivial ?_
    exact P0.ri (by decide +kernel) rfl (by rfl) ⟨by simp [jBoth, h1], rfl⟩
  · refine P0.b GX4_joins 1 (ob := []) (cf' := (51, [some (.int 1), some (.int c)], [.int 0], [])) rfl trivial ?_
    exact P0.ri (by decide +kernel) rfl (by rfl) ⟨by simp [jBoth, h1], rfl⟩
set_option maxHeartbeats 1000000 in
theorem joins_2 (c : Int32) : P0 0 0 0 mX4_joins (0, ent 2 [.int 2, .int c], [], []) (fun r h' => r = some (.int (if jSum c = true then 1 else 0)) ∧ h' = []) := by
  refine P0.b GX4_joins 2 (ob := []) (cf' := (swT 2 70 [(0, 28), (1, 40), (2, 52)], [some (.int 2), some (.int c)], [], [])) rfl trivial ?_
  rw [show swT (2 : Int32) 70 [(0, 28), (1, 40), (2, 52)] = 52 from by decide +kernel]
  refine P0.b GX4_joins 3 (ob := []) (cf' := (if c = -16 then 64 else 58, [some (.int 2), some (.int c)], [], [])) rfl trivial ?_
  refine P0.if (fun h1 => ?_) (fun h1 => ?_)
  · refine P0.b GX4_joins 2 (ob := []) (cf' := (69, [some (.int 2), some (.int c)], [.int 1], [])) rfl trivial ?_
    exact P0.ri (by decide +kernel) rfl (by rfl) ⟨by simp [jSum, h1], rfl⟩
  · refine P0.b GX4_joins 3 (ob := []) (cf' := (if c = -17 then 64 else 68, [some (.int 2), some (.int c)], [], [])) rfl trivial ?_
    refine P0.if (fun h2 => ?_) (fun h2 => ?_)
    · refine P0.b GX4_joins 2 (ob := []) (cf' := (69, [some (.int 2), some (.int c)], [.int 1], [])) rfl trivial ?_
      exact P0.ri (by decide +kernel) rfl (by rfl) ⟨by simp [jSum, h1, h2], rfl⟩
    · refine P0.b GX4_joins 1 (ob := []) (cf' := (69, [some (.int 2), some (.int c)], [.int 0], [])) rfl trivial ?_
      exact P0.ri (by decide +kernel) rfl (by rfl) ⟨by simp [jSum, h1, h2], rfl⟩
set_option maxHeartbeats 1000000 in
theorem joins_3 (c : Int32) : P0 0 0 0 mX4_joins (0, ent 2 [.int 3, .int c], [], []) (fun r h' => r = some (.int (if jTerm c = true then 1 else 0)) ∧ h' = []) := by
  refine P0.b GX4_joins 2 (ob := []) (cf' := (swT 3 70 [(0, 28), (1, 40), (2, 52)], [some (.int 3), some (.int c)], [], [])) rfl trivial ?_
  rw [show swT (3 : Int32) 70 [(0, 28), (1, 40), (2, 52)] = 70 from by decide +kernel]
  refine P0.b GX4_joins 3 (ob := []) (cf' := (if c = -18 then 76 else 80, [some (.int 3), some (.int c)], [], [])) rfl trivial ?_
  refine P0.if (fun h1 => ?_) (fun h1 => ?_)
  · refine P0.b GX4_joins 2 (ob := []) (cf' := (81, [some (.int 3), some (.int c)], [.int 1], [])) rfl trivial ?_
    exact P0.ri (by decide +kernel) rfl (by rfl) ⟨by simp [jTerm, h1], rfl⟩
  · refine P0.b GX4_joins 1 (ob := []) (cf' := (81, [some (.int 3), some (.int c)], [.int 0], [])) rfl trivial ?_
    exact P0.ri (by decide +kernel) rfl (by rfl) ⟨by simp [jTerm, h1], rfl⟩
theorem ln_1b {k k2 : Nat} {x : List Int32} {s : Int32} (h : k + 1 + x.length ≤ k2) : k + (x ++ [s]).length ≤ k2 := by rw [List.length_append]; simp only [List.length_cons, List.length_nil]; omega
theorem ln_1 (z : Nat) (x : List Int32) (s : Int32) : z + x.length + 1 = z + (x ++ [s]).length := by rw [List.length_append]; exact Nat.add_assoc _ _ _
theorem one_t {B sgn pl ed : Nat → Int32} {K : Nat} (hW : RW B sgn pl K) {D : Nat} {dE dO : Nat → PR (List Int32)} {o : Nat} (ho : o < 5) (hE : (∀ (k z : Nat) (cd : Nat → Int32), k ≤ K → z ≤ k → P0 (D + 1) 0 0 mX4_readChain (0, ent 6 [.ref 0, .int 0, .int (nI (o + 1))], [], [pO 3 [.ref 1, .ref 2, .ref 3, .ref 4, .int (nI k), .int (nI z)], pI 161 sgn, pI 161 pl, pI 160 cd, pI 3 ed]) (RQ B sgn pl ed K k z cd (dE (ps B k))))) (hO : (∀ (k z : Nat) (cd : Nat → Int32), k ≤ K → z ≤ k → P0 (D + 1) 0 0 mX4_readLink (0, ent 3 [.ref 0, .int 3, .int (nI (o + 1))], [], [pO 3 [.ref 1, .ref 2, .ref 3, .ref 4, .int (nI k), .int (nI z)], pI 161 sgn, pI 161 pl, pI 160 cd, pI 3 ed]) (RQ B sgn pl ed K k z cd (dO (ps B k))))) : (∀ (k z : Nat) (cd : Nat → Int32), k ≤ K → z ≤ k → P0 (D + 2) 0 0 mX4_readOne (0, ent 3 [.ref 0, .int (nI o)], [], [pO 3 [.ref 1, .ref 2, .ref 3, .ref 4, .int (nI k), .int (nI z)], pI 161 sgn, pI 161 pl, pI 160 cd, pI 3 ed]) (RQ B sgn pl ed K k z cd (pone (sg B) (nx B) cA true dE dO (ps B k)))) := by
  intro k z cd hk hzk
  have hK := hW.1
  refine P0.b GX4_readOne 1 (ob := []) (cf' := (1, [some (.ref 0), some (.int (nI o)), none], [.ref 0], [pO 3 [.ref 1, .ref 2, .ref 3, .ref 4, .int (nI k), .int (nI z)], pI 161 sgn, pI 161 pl, pI 160 cd, pI 3 ed])) rfl trivial ?_
  refine P0.cd (d0 := 0) (as := [.ref 0]) (rest := []) (r1 := some (.int (sg B (ps B k)))) (h1 := [pO 3 [.ref 1, .ref 2, .ref 3, .ref 4, .int (nI k), .int (nI z)], pI 161 sgn, pI 161 pl, pI 160 cd, pI 3 ed]) (st' := [.int (sg B (ps B k))]) GX4_sign kX4_readOne_1 rfl ⟨_, _, rfl, rfl, .inl ⟨_, _, _, _, rfl, rfl⟩⟩ (Nat.le_of_ble_eq_true rfl) (Nat.le_of_ble_eq_true rfl) (sign_n hW (k := k) (by omega)) (Nat.zero_le _) rfl (Nat.le_of_ble_eq_true rfl) rfl ?_
  refine P0.b GX4_readOne 2 (ob := []) (cf' := (6, [some (.ref 0), some (.int (nI o)), some (.int (sg B (ps B k)))], [.int (sg B (ps B k))], [pO 3 [.ref 1, .ref 2, .ref 3, .ref 4, .int (nI k), .int (nI z)], pI 161 sgn, pI 161 pl, pI 160 cd, pI 3 ed])) rfl trivial ?_
  refine P0.cr (io := []) (as := [.int (sg B (ps B k))]) (rest := []) (hc := []) (hc1 := []) (r1 := some (.int (if -6 ≤ (sg B (ps B k)) then 1 else 0))) (st' := [.int (if -6 ≤ (sg B (ps B k)) then 1 else 0)]) (h' := [pO 3 [.ref 1, .ref 2, .ref 3, .ref 4, .int (nI k), .int (nI z)], pI 161 sgn, pI 161 pl, pI 160 cd, pI 3 ed]) (d0 := 0) GX7_isValue kX4_readOne_6 rfl rfl (Nat.le_of_ble_eq_true rfl) (Nat.le_of_ble_eq_true rfl) rfl trivial (isValue_n (sg B (ps B k))) (Nat.le_of_ble_eq_true rfl) rfl (Nat.le_of_ble_eq_true rfl) (Nat.le_of_ble_eq_true rfl) rfl rfl ?_
  refine P0.b GX4_readOne 1 (ob := []) (cf' := (if (if -6 ≤ (sg B (ps B k)) then 1 else 0) = 0 then 28 else 12, [some (.ref 0), some (.int (nI o)), some (.int (sg B (ps B k)))], [], [pO 3 [.ref 1, .ref 2, .ref 3, .ref 4, .int (nI k), .int (nI z)], pI 161 sgn, pI 161 pl, pI 160 cd, pI 3 ed])) rfl trivial ?_
  refine P0.ifB (fun h1 => ?_) (fun h1 => ?_)
  · refine P0.b GX4_readOne 3 (ob := []) (cf' := (if sg B (ps B k) = -17 then 40 else 34, [some (.ref 0), some (.int (nI o)), some (.int (sg B (ps B k)))], [], [pO 3 [.ref 1, .ref 2, .ref 3, .ref 4, .int (nI k), .int (nI z)], pI 161 sgn, pI 161 pl, pI 160 cd, pI 3 ed])) rfl trivial ?_
    refine P0.if (fun h2 => ?_) (fun h2 => ?_)
    · refine P0.b GX4_readOne 3 (ob := []) (cf' := (if nI o < 5 then 47 else 45, [some (.ref 0), some (.int (nI o)), some (.int (sg B (ps B k)))], [], [pO 3 [.ref 1, .ref 2, .ref 3, .ref 4, .int (nI k), .int (nI z)], pI 161 sgn, pI 161 pl, pI 160 cd, pI 3 ed])) rfl trivial ?_
      rw [if_pos (show nI o < 5 from (nI_ltI (b := 5) (by omega) (by decide)).mpr ho)]
      refine P0.b GX4_readOne 6 (ob := []) (cf' := (57, [some (.ref 0), some (.int (nI o)), some (.int (sg B (ps B k)))], [], [pO 3 [.ref 1, .ref 2, .ref 3, .ref 4, .int ((nI k) + 1), .int (nI z)], pI 161 sgn, pI 161 pl, pI 160 cd, pI 3 ed])) rfl trivial ?_
      rw [show (nI k) + 1 = nI (k + 1) from nI_add _ _]
      refine P0.b GX4_readOne 3 (ob := []) (cf' := (if sg B (ps B k) = -17 then 63 else 89, [some (.ref 0), some (.int (nI o)), some (.int (sg B (ps B k)))], [], [pO 3 [.ref 1, .ref 2, .ref 3, .ref 4, .int (nI (k + 1)), .int (nI z)], pI 161 sgn, pI 161 pl, pI 160 cd, pI 3 ed])) rfl trivial ?_
      rw [if_pos (show sg B (ps B k) = -17 from h2)]
      refine P0.b GX4_readOne 5 (ob := []) (cf' := (68, [some (.ref 0), some (.int (nI o)), some (.int (sg B (ps B k)))], [.int ((nI o) + 1), .int 3, .ref 0], [pO 3 [.ref 1, .ref 2, .ref 3, .ref 4, .int (nI (k + 1)), .int (nI z)], pI 161 sgn, pI 161 pl, pI 160 cd, pI 3 ed])) rfl trivial ?_
      rw [show (nI o) + 1 = nI (o + 1) from nI_add _ _]
      have hQh2 := hW.is (k := k) (by omega) h2 (by decide) (by decide)
      refine P0.cs (as := [.ref 0, .int 3, .int (nI (o + 1))]) (rest := []) GX4_readLink kX4_readOne_68 rfl ⟨_, _, rfl, rfl, .inl ⟨_, _, _, _, rfl, rfl⟩⟩ (Nat.le_of_ble_eq_true rfl) (Nat.le_of_ble_eq_true rfl) (hO ((k + 1)) (z) cd (by omega) (by omega)) (Nat.le_of_ble_eq_true rfl) (fun r h' q => q.len) ?_
      intro r h' hq
      rcases hX173 : dO (ps B (k + 1)) with q173 | ⟨x173, p173⟩ <;> rw [hX173] at hq
      · obtain ⟨k173, sz173, cd173, hk173, rfl, rfl, rfl⟩ := hq
        show P0 _ _ _ _ (71, [some (.ref 0), some (.int (nI o)), some (.int (sg B (ps B k)))], [.int 0], [pO 3 [.ref 1, .ref 2, .ref 3, .ref 4, .int (nI k173), .int sz173], pI 161 sgn, pI 161 pl, pI 160 cd173, pI 3 ed]) _
        refine P0.b GX4_readOne 1 (ob := []) (cf' := (if (0 : Int32) = 0 then 87 else 74, [some (.ref 0), some (.int (nI o)), some (.int (sg B (ps B k)))], [], [pO 3 [.ref 1, .ref 2, .ref 3, .ref 4, .int (nI k173), .int sz173], pI 161 sgn, pI 161 pl, pI 160 cd173, pI 3 ed])) rfl trivial ?_
        rw [if_pos (show ((0 : Int32) = 0) from by decide)]
        refine P0.b GX4_readOne 1 (ob := []) (cf' := (88, [some (.ref 0), some (.int (nI o)), some (.int (sg B (ps B k)))], [.int 0], [pO 3 [.ref 1, .ref 2, .ref 3, .ref 4, .int (nI k173), .int sz173], pI 161 sgn, pI 161 pl, pI 160 cd173, pI 3 ed])) rfl trivial ?_
        exact P0.ri (by decide +kernel) rfl (by rfl) (RQ.no (pone_neg_no h2 hX173) hk173)
      · obtain ⟨k173, cd173, hk173, rfl, hm173, hC173, rfl, rfl⟩ := hq
        show P0 _ _ _ _ (71, [some (.ref 0), some (.int (nI o)), some (.int (sg B (ps B k)))], [.int 1], [pO 3 [.ref 1, .ref 2, .ref 3, .ref 4, .int (nI k173), .int (nI (z + x173.length))], pI 161 sgn, pI 161 pl, pI 160 cd173, pI 3 ed]) _
        refine P0.b GX4_readOne 1 (ob := []) (cf' := (if (1 : Int32) = 0 then 87 else 74, [some (.ref 0), some (.int (nI o)), some (.int (sg B (ps B k)))], [], [pO 3 [.ref 1, .ref 2, .ref 3, .ref 4, .int (nI k173), .int (nI (z + x173.length))], pI 161 sgn, pI 161 pl, pI 160 cd173, pI 3 ed])) rfl trivial ?_
        rw [if_neg (show ¬ ((1 : Int32) = 0) from by decide)]
        refine P0.b GX4_readOne 2 (ob := []) (cf' := (77, [some (.ref 0), some (.int (nI o)), some (.int (sg B (ps B k)))], [.int (-21), .ref 0], [pO 3 [.ref 1, .ref 2, .ref 3, .ref 4, .int (nI k173), .int (nI (z + x173.length))], pI 161 sgn, pI 161 pl, pI 160 cd173, pI 3 ed])) rfl trivial ?_
        have hQh2 := hW.is (k := k) (by omega) h2 (by decide) (by decide)
        refine P0.cd (d0 := 1) (as := [.ref 0, .int (-21)]) (rest := []) (r1 := some (.int 1)) (h1 := [pO 3 [.ref 1, .ref 2, .ref 3, .ref 4, .int (nI k173), .int (nI ((z + x173.length) + 1))], pI 161 sgn, pI 161 pl, pI 160 (upd cd173 (z + x173.length) (-21)), pI 3 ed]) (st' := [.int 1]) GX4_emit kX4_readOne_77 rfl ⟨_, _, rfl, rfl, .inl ⟨_, _, _, _, rfl, rfl⟩⟩ (Nat.le_of_ble_eq_true rfl) (Nat.le_of_ble_eq_true rfl) (emit_n (-21) (by omega)) ((by omega)) rfl (Nat.le_of_ble_eq_true rfl) rfl ?_
        refine P0.b GX4_readOne 1 (ob := []) (cf' := (if (1 : Int32) = 0 then 87 else 83, [some (.ref 0), some (.int (nI o)), some (.int (sg B (ps B k)))], [], [pO 3 [.ref 1, .ref 2, .ref 3, .ref 4, .int (nI k173), .int (nI ((z + x173.length) + 1))], pI 161 sgn, pI 161 pl, pI 160 (upd cd173 (z + x173.length) (-21)), pI 3 ed])) rfl trivial ?_
        rw [if_neg (show ¬ ((1 : Int32) = 0) from by decide)]
        refine P0.b GX4_readOne 2 (ob := []) (cf' := (88, [some (.ref 0), some (.int (nI o)), some (.int (sg B (ps B k)))], [.int 1], [pO 3 [.ref 1, .ref 2, .ref 3, .ref 4, .int (nI k173), .int (nI ((z + x173.length) + 1))], pI 161 sgn, pI 161 pl, pI 160 (upd cd173 (z + x173.length) (-21)), pI 3 ed])) rfl trivial ?_
        exact P0.ri (by decide +kernel) rfl (by rfl) (RQ.yes (pone_neg_yes h2 hX173 rfl) hk173 (ln_1 z x173 _) (ln_1b hm173) (hC173.put _))
    · refine P0.b GX4_readOne 3 (ob := []) (cf' := (if sg B (ps B k) = -13 then 40 else 45, [some (.ref 0), some (.int (nI o)), some (.int (sg B (ps B k)))], [], [pO 3 [.ref 1, .ref 2, .ref 3, .ref 4, .int (nI k), .int (nI z)], pI 161 sgn, pI 161 pl, pI 160 cd, pI 3 ed])) rfl trivial ?_
      refine P0.if (fun h3 => ?_) (fun h3 => ?_)
      · refine P0.b GX4_readOne 3 (ob := []) (cf' := (if nI o < 5 then 47 else 45, [some (.ref 0), some (.int (nI o)), some (.int (sg B (ps B k)))], [], [pO 3 [.ref 1, .ref 2, .ref 3, .ref 4, .int (nI k), .int (nI z)], pI 161 sgn, pI 161 pl, pI 160 cd, pI 3 ed])) rfl trivial ?_
        rw [if_pos (show nI o < 5 from (nI_ltI (b := 5) (by omega) (by decide)).mpr ho)]
        refine P0.b GX4_readOne 6 (ob := []) (cf' := (57, [some (.ref 0), some (.int (nI o)), some (.int (sg B (ps B k)))], [], [pO 3 [.ref 1, .ref 2, .ref 3, .ref 4, .int ((nI k) + 1), .int (nI z)], pI 161 sgn, pI 161 pl, pI 160 cd, pI 3 ed])) rfl trivial ?_
        rw [show (nI k) + 1 = nI (k + 1) from nI_add _ _]
        refine P0.b GX4_readOne 3 (ob := []) (cf' := (if sg B (ps B k) = -17 then 63 else 89, [some (.ref 0), some (.int (nI o)), some (.int (sg B (ps B k)))], [], [pO 3 [.ref 1, .ref 2, .ref 3, .ref 4, .int (nI (k + 1)), .int (nI z)], pI 161 sgn, pI 161 pl, pI 160 cd, pI 3 ed])) rfl trivial ?_
        rw [if_neg (show ¬ (sg B (ps B k) = -17) from h2)]
        refine P0.b GX4_readOne 5 (ob := []) (cf' := (94, [some (.ref 0), some (.int (nI o)), some (.int (sg B (ps B k)))], [.int ((nI o) + 1), .int 0, .ref 0], [pO 3 [.ref 1, .ref 2, .ref 3, .ref 4, .int (nI (k + 1)), .int (nI z)], pI 161 sgn, pI 161 pl, pI 160 cd, pI 3 ed])) rfl trivial ?_
        rw [show (nI o) + 1 = nI (o + 1) from nI_add _ _]
        have hQh3 := hW.is (k := k) (by omega) h3 (by decide) (by decide)
        refine P0.cs (as := [.ref 0, .int 0, .int (nI (o + 1))]) (rest := []) GX4_readChain kX4_readOne_94 rfl ⟨_, _, rfl, rfl, .inl ⟨_, _, _, _, rfl, rfl⟩⟩ (Nat.le_of_ble_eq_true rfl) (Nat.le_of_ble_eq_true rfl) (hE ((k + 1)) (z) cd (by omega) (by omega)) (Nat.le_of_ble_eq_true rfl) (fun r h' q => q.len) ?_
        intro r h' hq
        rcases hX174 : dE (ps B (k + 1)) with q174 | ⟨x174, p174⟩ <;> rw [hX174] at hq
        · obtain ⟨k174, sz174, cd174, hk174, rfl, rfl, rfl⟩ := hq
          show P0 _ _ _ _ (97, [some (.ref 0), some (.int (nI o)), some (.int (sg B (ps B k)))], [.int 0], [pO 3 [.ref 1, .ref 2, .ref 3, .ref 4, .int (nI k174), .int sz174], pI 161 sgn, pI 161 pl, pI 160 cd174, pI 3 ed]) _
          refine P0.b GX4_readOne 1 (ob := []) (cf' := (if (0 : Int32) = 0 then 113 else 100, [some (.ref 0), some (.int (nI o)), some (.int (sg B (ps B k)))], [], [pO 3 [.ref 1, .ref 2, .ref 3, .ref 4, .int (nI k174), .int sz174], pI 161 sgn, pI 161 pl, pI 160 cd174, pI 3 ed])) rfl trivial ?_
          rw [if_pos (show ((0 : Int32) = 0) from by decide)]
          refine P0.b GX4_readOne 1 (ob := []) (cf' := (114, [some (.ref 0), some (.int (nI o)), some (.int (sg B (ps B k)))], [.int 0], [pO 3 [.ref 1, .ref 2, .ref 3, .ref 4, .int (nI k174), .int sz174], pI 161 sgn, pI 161 pl, pI 160 cd174, pI 3 ed])) rfl trivial ?_
          exact P0.ri (by decide +kernel) rfl (by rfl) (RQ.no (pone_par_no h3 hX174) hk174)
        · obtain ⟨k174, cd174, hk174, rfl, hm174, hC174, rfl, rfl⟩ := hq
          show P0 _ _ _ _ (97, [some (.ref 0), some (.int (nI o)), some (.int (sg B (ps B k)))], [.int 1], [pO 3 [.ref 1, .ref 2, .ref 3, .ref 4, .int (nI k174), .int (nI (z + x174.length))], pI 161 sgn, pI 161 pl, pI 160 cd174, pI 3 ed]) _
          refine P0.b GX4_readOne 1 (ob := []) (cf' := (if (1 : Int32) = 0 then 113 else 100, [some (.ref 0), some (.int (nI o)), some (.int (sg B (ps B k)))], [], [pO 3 [.ref 1, .ref 2, .ref 3, .ref 4, .int (nI k174), .int (nI (z + x174.length))], pI 161 sgn, pI 161 pl, pI 160 cd174, pI 3 ed])) rfl trivial ?_
          rw [if_neg (show ¬ ((1 : Int32) = 0) from by decide)]
          refine P0.b GX4_readOne 2 (ob := []) (cf' := (103, [some (.ref 0), some (.int (nI o)), some (.int (sg B (ps B k)))], [.int (-14), .ref 0], [pO 3 [.ref 1, .ref 2, .ref 3, .ref 4, .int (nI k174), .int (nI (z + x174.length))], pI 161 sgn, pI 161 pl, pI 160 cd174, pI 3 ed])) rfl trivial ?_
          by_cases hT175 : sg B (ps B k174) = -14
          · refine P0.cd (d0 := 1) (as := [.ref 0, .int (-14)]) (rest := []) (r1 := some (.int 1)) (h1 := [pO 3 [.ref 1, .ref 2, .ref 3, .ref 4, .int (nI (k174 + 1)), .int (nI (z + x174.length))], pI 161 sgn, pI 161 pl, pI 160 cd174, pI 3 ed]) (st' := [.int 1]) GX4_take kX4_readOne_103 rfl ⟨_, _, rfl, rfl, .inl ⟨_, _, _, _, rfl, rfl⟩⟩ (Nat.le_of_ble_eq_true rfl) (Nat.le_of_ble_eq_true rfl) (take_y hW (k := k174) (by omega) hT175) (by omega) rfl (Nat.le_of_ble_eq_true rfl) rfl ?_
            have hK175 := hW.is (k := k174) (by omega) hT175 (by decide) (by decide)
            refine P0.b GX4_readOne 1 (ob := []) (cf' := (if (1 : Int32) = 0 then 113 else 109, [some (.ref 0), some (.int (nI o)), some (.int (sg B (ps B k)))], [], [pO 3 [.ref 1, .ref 2, .ref 3, .ref 4, .int (nI (k174 + 1)), .int (nI (z + x174.length))], pI 161 sgn, pI 161 pl, pI 160 cd174, pI 3 ed])) rfl trivial ?_
            rw [if_neg (show ¬ ((1 : Int32) = 0) from by decide)]
            refine P0.b GX4_readOne 2 (ob := []) (cf' := (114, [some (.ref 0), some (.int (nI o)), some (.int (sg B (ps B k)))], [.int 1], [pO 3 [.ref 1, .ref 2, .ref 3, .ref 4, .int (nI (k174 + 1)), .int (nI (z + x174.length))], pI 161 sgn, pI 161 pl, pI 160 cd174, pI 3 ed])) rfl trivial ?_
            exact P0.ri (by decide +kernel) rfl (by rfl) (RQ.yes (k' := k174 + 1) (pone_par_yes h3 hX174 hT175) (by omega) rfl (by omega) hC174)
          · refine P0.cd (d0 := 1) (as := [.ref 0, .int (-14)]) (rest := []) (r1 := some (.int 0)) (h1 := [pO 3 [.ref 1, .ref 2, .ref 3, .ref 4, .int (nI k174), .int (nI (z + x174.length))], pI 161 sgn, pI 161 pl, pI 160 cd174, pI 3 ed]) (st' := [.int 0]) GX4_take kX4_readOne_103 rfl ⟨_, _, rfl, rfl, .inl ⟨_, _, _, _, rfl, rfl⟩⟩ (Nat.le_of_ble_eq_true rfl) (Nat.le_of_ble_eq_true rfl) (take_n hW (k := k174) (by omega) hT175) (by omega) rfl (Nat.le_of_ble_eq_true rfl) rfl ?_
            refine P0.b GX4_readOne 1 (ob := []) (cf' := (if (0 : Int32) = 0 then 113 else 109, [some (.ref 0), some (.int (nI o)), some (.int (sg B (ps B k)))], [], [pO 3 [.ref 1, .ref 2, .ref 3, .ref 4, .int (nI k174), .int (nI (z + x174.length))], pI 161 sgn, pI 161 pl, pI 160 cd174, pI 3 ed])) rfl trivial ?_
            rw [if_pos (show ((0 : Int32) = 0) from by decide)]
            refine P0.b GX4_readOne 1 (ob := []) (cf' := (114, [some (.ref 0), some (.int (nI o)), some (.int (sg B (ps B k)))], [.int 0], [pO 3 [.ref 1, .ref 2, .ref 3, .ref 4, .int (nI k174), .int (nI (z + x174.length))], pI 161 sgn, pI 161 pl, pI 160 cd174, pI 3 ed])) rfl trivial ?_
            exact P0.ri (by decide +kernel) rfl (by rfl) (RQ.no (pone_par_bad h3 hX174 hT175) hk174)
      · refine P0.b GX4_readOne 1 (ob := []) (cf' := (46, [some (.ref 0), some (.int (nI o)), some (.int (sg B (ps B k)))], [.int 0], [pO 3 [.ref 1, .ref 2, .ref 3, .ref 4, .int (nI k), .int (nI z)], pI 161 sgn, pI 161 pl, pI 160 cd, pI 3 ed])) rfl trivial ?_
        exact P0.ri (by decide +kernel) rfl (by rfl) (RQ.no (k' := k) (pone_bad h1 h2 h3) hk)
  · refine P0.b GX4_readOne 6 (ob := []) (cf' := (22, [some (.ref 0), some (.int (nI o)), some (.int (sg B (ps B k)))], [], [pO 3 [.ref 1, .ref 2, .ref 3, .ref 4, .int ((nI k) + 1), .int (nI z)], pI 161 sgn, pI 161 pl, pI 160 cd, pI 3 ed])) rfl trivial ?_
    rw [show (nI k) + 1 = nI (k + 1) from nI_add _ _]
    refine P0.b GX4_readOne 2 (ob := []) (cf' := (24, [some (.ref 0), some (.int (nI o)), some (.int (sg B (ps B k)))], [.int (sg B (ps B k)), .ref 0], [pO 3 [.ref 1, .ref 2, .ref 3, .ref 4, .int (nI (k + 1)), .int (nI z)], pI 161 sgn, pI 161 pl, pI 160 cd, pI 3 ed])) rfl trivial ?_
    have hQh1 := hW.val (k := k) (by omega) h1
    refine P0.cd (d0 := 1) (as := [.ref 0, .int (sg B (ps B k))]) (rest := []) (r1 := some (.int 1)) (h1 := [pO 3 [.ref 1, .ref 2, .ref 3, .ref 4, .int (nI (k + 1)), .int (nI (z + 1))], pI 161 sgn, pI 161 pl, pI 160 (upd cd z (sg B (ps B k))), pI 3 ed]) (st' := [.int 1]) GX4_emit kX4_readOne_24 rfl ⟨_, _, rfl, rfl, .inl ⟨_, _, _, _, rfl, rfl⟩⟩ (Nat.le_of_ble_eq_true rfl) (Nat.le_of_ble_eq_true rfl) (emit_n (sg B (ps B k)) (by omega)) ((by omega)) rfl (Nat.le_of_ble_eq_true rfl) rfl ?_
    exact P0.ri (by decide +kernel) rfl (by rfl) (RQ.yes (x := [sg B (ps B k)]) (pone_val h1) (hW.val hk h1) rfl (Nat.le_refl _) (Cd.one _ _ _))
theorem one_f {B sgn pl ed : Nat → Int32} {K : Nat} (hW : RW B sgn pl K) {D : Nat} {dE dO : Nat → PR (List Int32)} : (∀ (k z : Nat) (cd : Nat → Int32), k ≤ K → z ≤ k → P0 (D + 2) 0 0 mX4_readOne (0, ent 3 [.ref 0, .int 5], [], [pO 3 [.ref 1, .ref 2, .ref 3, .ref 4, .int (nI k), .int (nI z)], pI 161 sgn, pI 161 pl, pI 160 cd, pI 3 ed]) (RQ B sgn pl ed K k z cd (pone (sg B) (nx B) cA false dE dO (ps B k)))) := by
  intro k z cd hk hzk
  have hK := hW.1
  refine P0.b GX4_readOne 1 (ob := []) (cf' := (1, [some (.ref 0), some (.int 5), none], [.ref 0], [pO 3 [.ref 1, .ref 2, .ref 3, .ref 4, .int (nI k), .int (nI z)], pI 161 sgn, pI 161 pl, pI 160 cd, pI 3 ed])) rfl trivial ?_
  refine P0.cd (d0 := 0) (as := [.ref 0]) (rest := []) (r1 := some (.int (sg B (ps B k)))) (h1 := [pO 3 [.ref 1, .ref 2, .ref 3, .ref 4, .int (nI k), .int (nI z)], pI 161 sgn, pI 161 pl, pI 160 cd, pI 3 ed]) (st' := [.int (sg B (ps B k))]) GX4_sign kX4_readOne_1 rfl ⟨_, _, rfl, rfl, .inl ⟨_, _, _, _, rfl, rfl⟩⟩ (Nat.le_of_ble_eq_true rfl) (Nat.le_of_ble_eq_true rfl) (sign_n hW (k := k) (by omega)) (Nat.zero_le _) rfl (Nat.le_of_ble_eq_true rfl) rfl ?_
  refine P0.b GX4_readOne 2 (ob := []) (cf' := (6, [some (.ref 0), some (.int 5), some (.int (sg B (ps B k)))], [.int (sg B (ps B k))], [pO 3 [.ref 1, .ref 2, .ref 3, .ref 4, .int (nI k), .int (nI z)], pI 161 sgn, pI 161 pl, pI 160 cd, pI 3 ed])) rfl trivial ?_
  refine P0.cr (io := []) (as := [.int (sg B (ps B k))]) (rest := []) (hc := []) (hc1 := []) (r1 := some (.int (if -6 ≤ (sg B (ps B k)) then 1 else 0))) (st' := [.int (if -6 ≤ (sg B (ps B k)) then 1 else 0)]) (h' := [pO 3 [.ref 1, .ref 2, .ref 3, .ref 4, .int (nI k), .int (nI z)], pI 161 sgn, pI 161 pl, pI 160 cd, pI 3 ed]) (d0 := 0) GX7_isValue kX4_readOne_6 rfl rfl (Nat.le_of_ble_eq_true rfl) (Nat.le_of_ble_eq_true rfl) rfl trivial (isValue_n (sg B (ps B k))) (Nat.le_of_ble_eq_true rfl) rfl (Nat.le_of_ble_eq_true rfl) (Nat.le_of_ble_eq_true rfl) rfl rfl ?_
  refine P0.b GX4_readOne 1 (ob := []) (cf' := (if (if -6 ≤ (sg B (ps B k)) then 1 else 0) = 0 then 28 else 12, [some (.ref 0), some (.int 5), some (.int (sg B (ps B k)))], [], [pO 3 [.ref 1, .ref 2, .ref 3, .ref 4, .int (nI k), .int (nI z)], pI 161 sgn, pI 161 pl, pI 160 cd, pI 3 ed])) rfl trivial ?_
  refine P0.ifB (fun h1 => ?_) (fun h1 => ?_)
  · refine P0.b GX4_readOne 3 (ob := []) (cf' := (if sg B (ps B k) = -17 then 40 else 34, [some (.ref 0), some (.int 5), some (.int (sg B (ps B k)))], [], [pO 3 [.ref 1, .ref 2, .ref 3, .ref 4, .int (nI k), .int (nI z)], pI 161 sgn, pI 161 pl, pI 160 cd, pI 3 ed])) rfl trivial ?_
    refine P0.if (fun h2 => ?_) (fun h2 => ?_)
    · refine P0.b GX4_readOne 3 (ob := []) (cf' := (if (5 : Int32) < 5 then 47 else 45, [some (.ref 0), some (.int 5), some (.int (sg B (ps B k)))], [], [pO 3 [.ref 1, .ref 2, .ref 3, .ref 4, .int (nI k), .int (nI z)], pI 161 sgn, pI 161 pl, pI 160 cd, pI 3 ed])) rfl trivial ?_
      rw [if_neg (show ¬ ((5 : Int32) < 5) from by decide)]
      refine P0.b GX4_readOne 1 (ob := []) (cf' := (46, [some (.ref 0), some (.int 5), some (.int (sg B (ps B k)))], [.int 0], [pO 3 [.ref 1, .ref 2, .ref 3, .ref 4, .int (nI k), .int (nI z)], pI 161 sgn, pI 161 pl, pI 160 cd, pI 3 ed])) rfl trivial ?_
      exact P0.ri (by decide +kernel) rfl (by rfl) (RQ.no (k' := k) (pone_neg h2) hk)
    · refine P0.b GX4_readOne 3 (ob := []) (cf' := (if sg B (ps B k) = -13 then 40 else 45, [some (.ref 0), some (.int 5), some (.int (sg B (ps B k)))], [], [pO 3 [.ref 1, .ref 2, .ref 3, .ref 4, .int (nI k), .int (nI z)], pI 161 sgn, pI 161 pl, pI 160 cd, pI 3 ed])) rfl trivial ?_
      refine P0.if (fun h3 => ?_) (fun h3 => ?_)
      · refine P0.b GX4_readOne 3 (ob := []) (cf' := (if (5 : Int32) < 5 then 47 else 45, [some (.ref 0), some (.int 5), some (.int (sg B (ps B k)))], [], [pO 3 [.ref 1, .ref 2, .ref 3, .ref 4, .int (nI k), .int (nI z)], pI 161 sgn, pI 161 pl, pI 160 cd, pI 3 ed])) rfl trivial ?_
        rw [if_neg (show ¬ ((5 : Int32) < 5) from by decide)]
        refine P0.b GX4_readOne 1 (ob := []) (cf' := (46, [some (.ref 0), some (.int 5), some (.int (sg B (ps B k)))], [.int 0], [pO 3 [.ref 1, .ref 2, .ref 3, .ref 4, .int (nI k), .int (nI z)], pI 161 sgn, pI 161 pl, pI 160 cd, pI 3 ed])) rfl trivial ?_
        exact P0.ri (by decide +kernel) rfl (by rfl) (RQ.no (k' := k) (pone_par h3) hk)
      · refine P0.b GX4_readOne 1 (ob := []) (cf' := (46, [some (.ref 0), some (.int 5), some (.int (sg B (ps B k)))], [.int 0], [pO 3 [.ref 1, .ref 2, .ref 3, .ref 4, .int (nI k), .int (nI z)], pI 161 sgn, pI 161 pl, pI 160 cd, pI 3 ed])) rfl trivial ?_
        exact P0.ri (by decide +kernel) rfl (by rfl) (RQ.no (k' := k) (pone_bad h1 h2 h3) hk)
  · refine P0.b GX4_readOne 6 (ob := []) (cf' := (22, [some (.ref 0), some (.int 5), some (.int (sg B (ps B k)))], [], [pO 3 [.ref 1, .ref 2, .ref 3, .ref 4, .int ((nI k) + 1), .int (nI z)], pI 161 sgn, pI 161 pl, pI 160 cd, pI 3 ed])) rfl trivial ?_
    rw [show (nI k) + 1 = nI (k + 1) from nI_add _ _]
    refine P0.b GX4_readOne 2 (ob := []) (cf' := (24, [some (.ref 0), some (.int 5), some (.int (sg B (ps B k)))], [.int (sg B (ps B k)), .ref 0], [pO 3 [.ref 1, .ref 2, .ref 3, .ref 4, .int (nI (k + 1)), .int (nI z)], pI 161 sgn, pI 161 pl, pI 160 cd, pI 3 ed])) rfl trivial ?_
    have hQh1 := hW.val (k := k) (by omega) h1
    refine P0.cd (d0 := 1) (as := [.ref 0, .int (sg B (ps B k))]) (rest := []) (r1 := some (.int 1)) (h1 := [pO 3 [.ref 1, .ref 2, .ref 3, .ref 4, .int (nI (k + 1)), .int (nI (z + 1))], pI 161 sgn, pI 161 pl, pI 160 (upd cd z (sg B (ps B k))), pI 3 ed]) (st' := [.int 1]) GX4_emit kX4_readOne_24 rfl ⟨_, _, rfl, rfl, .inl ⟨_, _, _, _, rfl, rfl⟩⟩ (Nat.le_of_ble_eq_true rfl) (Nat.le_of_ble_eq_true rfl) (emit_n (sg B (ps B k)) (by omega)) ((by omega)) rfl (Nat.le_of_ble_eq_true rfl) rfl ?_
    exact P0.ri (by decide +kernel) rfl (by rfl) (RQ.yes (x := [sg B (ps B k)]) (pone_val h1) (hW.val hk h1) rfl (Nat.le_refl _) (Cd.one _ _ _))
