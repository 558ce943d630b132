/-! ===== laid by program (wip/tools) ===== -/
section GN
variable {X : Type} {S : Nat → Int32} {nxt : Nat → Nat} {A : ALG X} {ok : Bool} {dE dN dO : Nat → PR X} {p p1 p2 q : Nat} {x y : X}
theorem pnot_s1 (h : ¬ S p = -12) (h1 : psum S nxt A ok dE dO p = .inl q) : pnot S nxt A ok dE dN dO p = .inl q := by rw [pnot_sum h, h1]; rfl
theorem pnot_s2 (h : ¬ S p = -12) (h1 : psum S nxt A ok dE dO p = .inr (x, p1)) (h2 : ¬ S p1 = -19) (h3 : ¬ S p1 = -20) : pnot S nxt A ok dE dN dO p = .inr (x, p1) := by
  rw [pnot_sum h, h1]
  show (if S p1 = -19 ∨ S p1 = -20 then _ else _) = _
  rw [if_neg (fun z => z.elim h2 h3)]
theorem pnot_s3 (h : ¬ S p = -12) (h1 : psum S nxt A ok dE dO p = .inr (x, p1)) (h2 : S p1 = -19 ∨ S p1 = -20) (h3 : psum S nxt A ok dE dO (nxt p1) = .inl q) : pnot S nxt A ok dE dN dO p = .inl q := by
  rw [pnot_sum h, h1]
  show (if S p1 = -19 ∨ S p1 = -20 then _ else _) = _
  rw [if_pos h2, h3]; rfl
theorem pnot_s4 (h : ¬ S p = -12) (h1 : psum S nxt A ok dE dO p = .inr (x, p1)) (h2 : S p1 = -19 ∨ S p1 = -20) (h3 : psum S nxt A ok dE dO (nxt p1) = .inr (y, p2)) : pnot S nxt A ok dE dN dO p = .inr (A.2.2 (S p1) x y, p2) := by
  rw [pnot_sum h, h1]
  show (if S p1 = -19 ∨ S p1 = -20 then _ else _) = _
  rw [if_pos h2, h3]; rfl
end GN
theorem Cd.bin {c0 c1 c2 : Nat → Int32} {z : Nat} {x y : List Int32} (h1 : Cd c0 z x c1) (h2 : Cd c1 (z + x.length) y c2) (s : Int32) : Cd c0 z (x ++ y ++ [s]) (upd c2 (z + x.length + y.length) s) := by
  have := (h1.app h2).put s
  rw [List.length_append, ← Nat.add_assoc] at this
  exact this
theorem ln_2 (z : Nat) (x y : List Int32) (s : Int32) : z + x.length + y.length + 1 = z + (x ++ y ++ [s]).length := by
  rw [List.length_append, List.length_append]; simp only [List.length_cons, List.length_nil]; omega
theorem ln_2b {k k1 k2 : Nat} {x y : List Int32} {s : Int32} (h1 : k + x.length ≤ k1) (h2 : k1 + 1 + y.length ≤ k2) : k + (x ++ y ++ [s]).length ≤ k2 := by
  rw [List.length_append, List.length_append]; simp only [List.length_cons, List.length_nil]; omega
theorem full_stop {B sgn pl : Nat → Int32} {K k j : Nat} {jn : Int32 → Bool} (hW : RW B sgn pl K) (hk : k ≤ K) (hj : j ≤ k) (h : 160 ≤ nI j) (hok : ∀ s, jn s = true → ¬ s = -22 ∧ ¬ s = -23) : jn (sg B (ps B k)) = false := by
  have hK := hW.1
  have : 160 ≤ j := (nI_leI (a := 160) (by decide) (by omega)).mp h
  apply Bool.eq_false_iff.mpr
  intro z
  have := hW.lt hk (hok _ z).1 (hok _ z).2
  omega
theorem RW.jn {B sgn pl : Nat → Int32} {K k : Nat} {jn : Int32 → Bool} (hW : RW B sgn pl K) (hk : k ≤ K) (hok : ∀ s, jn s = true → ¬ s = -22 ∧ ¬ s = -23) (h : jn (sg B (ps B k)) = true) : k < K := hW.lt hk (hok _ h).1 (hok _ h).2
theorem link_0 {B sgn pl ed : Nat → Int32} {K : Nat} (hW : RW B sgn pl K) {D : Nat} {O : Int32} {pr : Nat → PR (List Int32)} (hP : (∀ (k z : Nat) (cd : Nat → Int32), k ≤ K → z ≤ k → P0 (D + 1) 0 0 mX4_readChain (0, ent 6 [.ref 0, .int 1, .int O], [], [pO 3 [.ref 1, .ref 2, .ref 3, .ref 4, .int (nI k), .int (nI z)], pI 161 sgn, pI 161 pl, pI 160 cd, pI 3 ed]) (RQ B sgn pl ed K k z cd (pr (ps B k))))) : (∀ (k z : Nat) (cd : Nat → Int32), k ≤ K → z ≤ k → P0 (D + 2) 0 0 mX4_readLink (0, ent 3 [.ref 0, .int 0, .int O], [], [pO 3 [.ref 1, .ref 2, .ref 3, .ref 4, .int (nI k), .int (nI z)], pI 161 sgn, pI 161 pl, pI 160 cd, pI 3 ed]) (RQ B sgn pl ed K k z cd (pr (ps B k)))) := by
  intro k z cd hk hzk
  have hK := hW.1
  refine P0.b GX4_readLink 2 (ob := []) (cf' := (swT 0 48 [(0, 28), (1, 35), (2, 41)], [some (.ref 0), some (.int 0), some (.int O)], [], [pO 3 [.ref 1, .ref 2, .ref 3, .ref 4, .int (nI k), .int (nI z)], pI 161 sgn, pI 161 pl, pI 160 cd, pI 3 ed])) rfl trivial ?_
  rw [show swT (0 : Int32) 48 [(0, 28), (1, 35), (2, 41)] = 28 from by decide +kernel]
  refine P0.b GX4_readLink 3 (ob := []) (cf' := (31, [some (.ref 0), some (.int 0), some (.int O)], [.int O, .int 1, .ref 0], [pO 3 [.ref 1, .ref 2, .ref 3, .ref 4, .int (nI k), .int (nI z)], pI 161 sgn, pI 161 pl, pI 160 cd, pI 3 ed])) rfl trivial ?_
  refine P0.cs (as := [.ref 0, .int 1, .int O]) (rest := []) GX4_readChain kX4_readLink_31 rfl ⟨_, _, rfl, rfl, .inl ⟨_, _, _, _, rfl, rfl⟩⟩ (Nat.le_of_ble_eq_true rfl) (Nat.le_of_ble_eq_true rfl) (hP (k) (z) cd (by omega) (by omega)) (Nat.le_of_ble_eq_true rfl) (fun r h' q => q.len) ?_
  intro r h' hq
  rcases hX176 : pr (ps B k) with q176 | ⟨x176, p176⟩ <;> rw [hX176] at hq
  · obtain ⟨k176, sz176, cd176, hk176, rfl, rfl, rfl⟩ := hq
    show P0 _ _ _ _ (34, [some (.ref 0), some (.int 0), some (.int O)], [.int 0], [pO 3 [.ref 1, .ref 2, .ref 3, .ref 4, .int (nI k176), .int sz176], pI 161 sgn, pI 161 pl, pI 160 cd176, pI 3 ed]) _
    exact P0.ri (by decide +kernel) rfl (by rfl) (RQ.no rfl hk176)
  · obtain ⟨k176, cd176, hk176, rfl, hm176, hC176, rfl, rfl⟩ := hq
    show P0 _ _ _ _ (34, [some (.ref 0), some (.int 0), some (.int O)], [.int 1], [pO 3 [.ref 1, .ref 2, .ref 3, .ref 4, .int (nI k176), .int (nI (z + x176.length))], pI 161 sgn, pI 161 pl, pI 160 cd176, pI 3 ed]) _
    exact P0.ri (by decide +kernel) rfl (by rfl) (RQ.yes rfl hk176 rfl hm176 hC176)
theorem link_1 {B sgn pl ed : Nat → Int32} {K : Nat} (hW : RW B sgn pl K) {D : Nat} {O : Int32} {pr : Nat → PR (List Int32)} (hP : (∀ (k z : Nat) (cd : Nat → Int32), k ≤ K → z ≤ k → P0 (D + 1) 0 0 mX4_readNot (0, ent 3 [.ref 0, .int O], [], [pO 3 [.ref 1, .ref 2, .ref 3, .ref 4, .int (nI k), .int (nI z)], pI 161 sgn, pI 161 pl, pI 160 cd, pI 3 ed]) (RQ B sgn pl ed K k z cd (pr (ps B k))))) : (∀ (k z : Nat) (cd : Nat → Int32), k ≤ K → z ≤ k → P0 (D + 2) 0 0 mX4_readLink (0, ent 3 [.ref 0, .int 1, .int O], [], [pO 3 [.ref 1, .ref 2, .ref 3, .ref 4, .int (nI k), .int (nI z)], pI 161 sgn, pI 161 pl, pI 160 cd, pI 3 ed]) (RQ B sgn pl ed K k z cd (pr (ps B k)))) := by
  intro k z cd hk hzk
  have hK := hW.1
  refine P0.b GX4_readLink 2 (ob := []) (cf' := (swT 1 48 [(0, 28), (1, 35), (2, 41)], [some (.ref 0), some (.int 1), some (.int O)], [], [pO 3 [.ref 1, .ref 2, .ref 3, .ref 4, .int (nI k), .int (nI z)], pI 161 sgn, pI 161 pl, pI 160 cd, pI 3 ed])) rfl trivial ?_
  rw [show swT (1 : Int32) 48 [(0, 28), (1, 35), (2, 41)] = 35 from by decide +kernel]
  refine P0.b GX4_readLink 2 (ob := []) (cf' := (37, [some (.ref 0), some (.int 1), some (.int O)], [.int O, .ref 0], [pO 3 [.ref 1, .ref 2, .ref 3, .ref 4, .int (nI k), .int (nI z)], pI 161 sgn, pI 161 pl, pI 160 cd, pI 3 ed])) rfl trivial ?_
  refine P0.cs (as := [.ref 0, .int O]) (rest := []) GX4_readNot kX4_readLink_37 rfl ⟨_, _, rfl, rfl, .inl ⟨_, _, _, _, rfl, rfl⟩⟩ (Nat.le_of_ble_eq_true rfl) (Nat.le_of_ble_eq_true rfl) (hP (k) (z) cd (by omega) (by omega)) (Nat.le_of_ble_eq_true rfl) (fun r h' q => q.len) ?_
  intro r h' hq
  rcases hX177 : pr (ps B k) with q177 | ⟨x177, p177⟩ <;> rw [hX177] at hq
  · obtain ⟨k177, sz177, cd177, hk177, rfl, rfl, rfl⟩ := hq
    show P0 _ _ _ _ (40, [some (.ref 0), some (.int 1), some (.int O)], [.int 0], [pO 3 [.ref 1, .ref 2, .ref 3, .ref 4, .int (nI k177), .int sz177], pI 161 sgn, pI 161 pl, pI 160 cd177, pI 3 ed]) _
    exact P0.ri (by decide +kernel) rfl (by rfl) (RQ.no rfl hk177)
  · obtain ⟨k177, cd177, hk177, rfl, hm177, hC177, rfl, rfl⟩ := hq
    show P0 _ _ _ _ (40, [some (.ref 0), some (.int 1), some (.int O)], [.int 1], [pO 3 [.ref 1, .ref 2, .ref 3, .ref 4, .int (nI k177), .int (nI (z + x177.length))], pI 161 sgn, pI 161 pl, pI 160 cd177, pI 3 ed]) _
    exact P0.ri (by decide +kernel) rfl (by rfl) (RQ.yes rfl hk177 rfl hm177 hC177)
theorem link_2 {B sgn pl ed : Nat → Int32} {K : Nat} (hW : RW B sgn pl K) {D : Nat} {O : Int32} {pr : Nat → PR (List Int32)} (hP : (∀ (k z : Nat) (cd : Nat → Int32), k ≤ K → z ≤ k → P0 (D + 1) 0 0 mX4_readChain (0, ent 6 [.ref 0, .int 3, .int O], [], [pO 3 [.ref 1, .ref 2, .ref 3, .ref 4, .int (nI k), .int (nI z)], pI 161 sgn, pI 161 pl, pI 160 cd, pI 3 ed]) (RQ B sgn pl ed K k z cd (pr (ps B k))))) : (∀ (k z : Nat) (cd : Nat → Int32), k ≤ K → z ≤ k → P0 (D + 2) 0 0 mX4_readLink (0, ent 3 [.ref 0, .int 2, .int O], [], [pO 3 [.ref 1, .ref 2, .ref 3, .ref 4, .int (nI k), .int (nI z)], pI 161 sgn, pI 161 pl, pI 160 cd, pI 3 ed]) (RQ B sgn pl ed K k z cd (pr (ps B k)))) := by
  intro k z cd hk hzk
  have hK := hW.1
  refine P0.b GX4_readLink 2 (ob := []) (cf' := (swT 2 48 [(0, 28), (1, 35), (2, 41)], [some (.ref 0), some (.int 2), some (.int O)], [], [pO 3 [.ref 1, .ref 2, .ref 3, .ref 4, .int (nI k), .int (nI z)], pI 161 sgn, pI 161 pl, pI 160 cd, pI 3 ed])) rfl trivial ?_
  rw [show swT (2 : Int32) 48 [(0, 28), (1, 35), (2, 41)] = 41 from by decide +kernel]
  refine P0.b GX4_readLink 3 (ob := []) (cf' := (44, [some (.ref 0), some (.int 2), some (.int O)], [.int O, .int 3, .ref 0], [pO 3 [.ref 1, .ref 2, .ref 3, .ref 4, .int (nI k), .int (nI z)], pI 161 sgn, pI 161 pl, pI 160 cd, pI 3 ed])) rfl trivial ?_
  refine P0.cs (as := [.ref 0, .int 3, .int O]) (rest := []) GX4_readChain kX4_readLink_44 rfl ⟨_, _, rfl, rfl, .inl ⟨_, _, _, _, rfl, rfl⟩⟩ (Nat.le_of_ble_eq_true rfl) (Nat.le_of_ble_eq_true rfl) (hP (k) (z) cd (by omega) (by omega)) (Nat.le_of_ble_eq_true rfl) (fun r h' q => q.len) ?_
  intro r h' hq
  rcases hX178 : pr (ps B k) with q178 | ⟨x178, p178⟩ <;> rw [hX178] at hq
  · obtain ⟨k178, sz178, cd178, hk178, rfl, rfl, rfl⟩ := hq
    show P0 _ _ _ _ (47, [some (.ref 0), some (.int 2), some (.int O)], [.int 0], [pO 3 [.ref 1, .ref 2, .ref 3, .ref 4, .int (nI k178), .int sz178], pI 161 sgn, pI 161 pl, pI 160 cd178, pI 3 ed]) _
    exact P0.ri (by decide +kernel) rfl (by rfl) (RQ.no rfl hk178)
  · obtain ⟨k178, cd178, hk178, rfl, hm178, hC178, rfl, rfl⟩ := hq
    show P0 _ _ _ _ (47, [some (.ref 0), some (.int 2), some (.int O)], [.int 1], [pO 3 [.ref 1, .ref 2, .ref 3, .ref 4, .int (nI k178), .int (nI (z + x178.length))], pI 161 sgn, pI 161 pl, pI 160 cd178, pI 3 ed]) _
    exact P0.ri (by decide +kernel) rfl (by rfl) (RQ.yes rfl hk178 rfl hm178 hC178)
theorem link_3 {B sgn pl ed : Nat → Int32} {K : Nat} (hW : RW B sgn pl K) {D : Nat} {O : Int32} {pr : Nat → PR (List Int32)} (hP : (∀ (k z : Nat) (cd : Nat → Int32), k ≤ K → z ≤ k → P0 (D + 1) 0 0 mX4_readOne (0, ent 3 [.ref 0, .int O], [], [pO 3 [.ref 1, .ref 2, .ref 3, .ref 4, .int (nI k), .int (nI z)], pI 161 sgn, pI 161 pl, pI 160 cd, pI 3 ed]) (RQ B sgn pl ed K k z cd (pr (ps B k))))) : (∀ (k z : Nat) (cd : Nat → Int32), k ≤ K → z ≤ k → P0 (D + 2) 0 0 mX4_readLink (0, ent 3 [.ref 0, .int 3, .int O], [], [pO 3 [.ref 1, .ref 2, .ref 3, .ref 4, .int (nI k), .int (nI z)], pI 161 sgn, pI 161 pl, pI 160 cd, pI 3 ed]) (RQ B sgn pl ed K k z cd (pr (ps B k)))) := by
  intro k z cd hk hzk
  have hK := hW.1
  refine P0.b GX4_readLink 2 (ob := []) (cf' := (swT 3 48 [(0, 28), (1, 35), (2, 41)], [some (.ref 0), some (.int 3), some (.int O)], [], [pO 3 [.ref 1, .ref 2, .ref 3, .ref 4, .int (nI k), .int (nI z)], pI 161 sgn, pI 161 pl, pI 160 cd, pI 3 ed])) rfl trivial ?_
  rw [show swT (3 : Int32) 48 [(0, 28), (1, 35), (2, 41)] = 48 from by decide +kernel]
  refine P0.b GX4_readLink 2 (ob := []) (cf' := (50, [some (.ref 0), some (.int 3), some (.int O)], [.int O, .ref 0], [pO 3 [.ref 1, .ref 2, .ref 3, .ref 4, .int (nI k), .int (nI z)], pI 161 sgn, pI 161 pl, pI 160 cd, pI 3 ed])) rfl trivial ?_
  refine P0.cs (as := [.ref 0, .int O]) (rest := []) GX4_readOne kX4_readLink_50 rfl ⟨_, _, rfl, rfl, .inl ⟨_, _, _, _, rfl, rfl⟩⟩ (Nat.le_of_ble_eq_true rfl) (Nat.le_of_ble_eq_true rfl) (hP (k) (z) cd (by omega) (by omega)) (Nat.le_of_ble_eq_true rfl) (fun r h' q => q.len) ?_
  intro r h' hq
  rcases hX179 : pr (ps B k) with q179 | ⟨x179, p179⟩ <;> rw [hX179] at hq
  · obtain ⟨k179, sz179, cd179, hk179, rfl, rfl, rfl⟩ := hq
    show P0 _ _ _ _ (53, [some (.ref 0), some (.int 3), some (.int O)], [.int 0], [pO 3 [.ref 1, .ref 2, .ref 3, .ref 4, .int (nI k179), .int sz179], pI 161 sgn, pI 161 pl, pI 160 cd179, pI 3 ed]) _
    exact P0.ri (by decide +kernel) rfl (by rfl) (RQ.no rfl hk179)
  · obtain ⟨k179, cd179, hk179, rfl, hm179, hC179, rfl, rfl⟩ := hq
    show P0 _ _ _ _ (53, [some (.ref 0), some (.int 3), some (.int O)], [.int 1], [pO 3 [.ref 1, .ref 2, .ref 3, .ref 4, .int (nI k179), .int (nI (z + x179.length))], pI 161 sgn, pI 161 pl, pI 160 cd179, pI 3 ed]) _
    exact P0.ri (by decide +kernel) rfl (by rfl) (RQ.yes rfl hk179 rfl hm179 hC179)
theorem not_t {B sgn pl ed : Nat → Int32} {K : Nat} (hW : RW B sgn pl K) {D : Nat} {dE dN dO : Nat → PR (List Int32)} {o : Nat} (ho : o < 5) (hN : (∀ (k z : Nat) (cd : Nat → Int32), k ≤ K → z ≤ k → P0 (D + 1) 0 0 mX4_readLink (0, ent 3 [.ref 0, .int 1, .int (nI (o + 1))], [], [pO 3 [.ref 1, .ref 2, .ref 3, .ref 4, .int (nI k), .int (nI z)], pI 161 sgn, pI 161 pl, pI 160 cd, pI 3 ed]) (RQ B sgn pl ed K k z cd (dN (ps B k))))) (hS : (∀ (k z : Nat) (cd : Nat → Int32), k ≤ K → z ≤ k → P0 (D + 1) 0 0 mX4_readChain (0, ent 6 [.ref 0, .int 2, .int (nI o)], [], [pO 3 [.ref 1, .ref 2, .ref 3, .ref 4, .int (nI k), .int (nI z)], pI 161 sgn, pI 161 pl, pI 160 cd, pI 3 ed]) (RQ B sgn pl ed K k z cd (psum (sg B) (nx B) cA true dE dO (ps B k))))) : (∀ (k z : Nat) (cd : Nat → Int32), k ≤ K → z ≤ k → P0 (D + 2) 0 0 mX4_readNot (0, ent 3 [.ref 0, .int (nI o)], [], [pO 3 [.ref 1, .ref 2, .ref 3, .ref 4, .int (nI k), .int (nI z)], pI 161 sgn, pI 161 pl, pI 160 cd, pI 3 ed]) (RQ B sgn pl ed K k z cd (pnot (sg B) (nx B) cA true dE dN dO (ps B k)))) := by
  intro k z cd hk hzk
  have hK := hW.1
  refine P0.b GX4_readNot 1 (ob := []) (cf' := (1, [some (.ref 0), some (.int (nI o)), none], [.ref 0], [pO 3 [.ref 1, .ref 2, .ref 3, .ref 4, .int (nI k), .int (nI z)], pI 161 sgn, pI 161 pl, pI 160 cd, pI 3 ed])) rfl trivial ?_
  refine P0.cd (d0 := 0) (as := [.ref 0]) (rest := []) (r1 := some (.int (sg B (ps B k)))) (h1 := [pO 3 [.ref 1, .ref 2, .ref 3, .ref 4, .int (nI k), .int (nI z)], pI 161 sgn, pI 161 pl, pI 160 cd, pI 3 ed]) (st' := [.int (sg B (ps B k))]) GX4_sign kX4_readNot_1 rfl ⟨_, _, rfl, rfl, .inl ⟨_, _, _, _, rfl, rfl⟩⟩ (Nat.le_of_ble_eq_true rfl) (Nat.le_of_ble_eq_true rfl) (sign_n hW (k := k) (by omega)) (Nat.zero_le _) rfl (Nat.le_of_ble_eq_true rfl) rfl ?_
  refine P0.b GX4_readNot 2 (ob := []) (cf' := (if sg B (ps B k) = -12 then 9 else 52, [some (.ref 0), some (.int (nI o)), none], [], [pO 3 [.ref 1, .ref 2, .ref 3, .ref 4, .int (nI k), .int (nI z)], pI 161 sgn, pI 161 pl, pI 160 cd, pI 3 ed])) rfl trivial ?_
  refine P0.if (fun h1 => ?_) (fun h1 => ?_)
  · refine P0.b GX4_readNot 3 (ob := []) (cf' := (if nI o < 5 then 16 else 14, [some (.ref 0), some (.int (nI o)), none], [], [pO 3 [.ref 1, .ref 2, .ref 3, .ref 4, .int (nI k), .int (nI z)], pI 161 sgn, pI 161 pl, pI 160 cd, pI 3 ed])) rfl trivial ?_
    rw [if_pos (show nI o < 5 from (nI_ltI (b := 5) (by omega) (by decide)).mpr ho)]
    refine P0.b GX4_readNot 6 (ob := []) (cf' := (26, [some (.ref 0), some (.int (nI o)), none], [], [pO 3 [.ref 1, .ref 2, .ref 3, .ref 4, .int ((nI k) + 1), .int (nI z)], pI 161 sgn, pI 161 pl, pI 160 cd, pI 3 ed])) rfl trivial ?_
    rw [show (nI k) + 1 = nI (k + 1) from nI_add _ _]
    refine P0.b GX4_readNot 5 (ob := []) (cf' := (31, [some (.ref 0), some (.int (nI o)), none], [.int ((nI o) + 1), .int 1, .ref 0], [pO 3 [.ref 1, .ref 2, .ref 3, .ref 4, .int (nI (k + 1)), .int (nI z)], pI 161 sgn, pI 161 pl, pI 160 cd, pI 3 ed])) rfl trivial ?_
    rw [show (nI o) + 1 = nI (o + 1) from nI_add _ _]
    have hQh1 := hW.is (k := k) (by omega) h1 (by decide) (by decide)
    refine P0.cs (as := [.ref 0, .int 1, .int (nI (o + 1))]) (rest := []) GX4_readLink kX4_readNot_31 rfl ⟨_, _, rfl, rfl, .inl ⟨_, _, _, _, rfl, rfl⟩⟩ (Nat.le_of_ble_eq_true rfl) (Nat.le_of_ble_eq_true rfl) (hN ((k + 1)) (z) cd (by omega) (by omega)) (Nat.le_of_ble_eq_true rfl) (fun r h' q => q.len) ?_
    intro r h' hq
    rcases hX180 : dN (ps B (k + 1)) with q180 | ⟨x180, p180⟩ <;> rw [hX180] at hq
    · obtain ⟨k180, sz180, cd180, hk180, rfl, rfl, rfl⟩ := hq
      show P0 _ _ _ _ (34, [some (.ref 0), some (.int (nI o)), none], [.int 0], [pO 3 [.ref 1, .ref 2, .ref 3, .ref 4, .int (nI k180), .int sz180], pI 161 sgn, pI 161 pl, pI 160 cd180, pI 3 ed]) _
      refine P0.b GX4_readNot 1 (ob := []) (cf' := (if (0 : Int32) = 0 then 50 else 37, [some (.ref 0), some (.int (nI o)), none], [], [pO 3 [.ref 1, .ref 2, .ref 3, .ref 4, .int (nI k180), .int sz180], pI 161 sgn, pI 161 pl, pI 160 cd180, pI 3 ed])) rfl trivial ?_
      rw [if_pos (show ((0 : Int32) = 0) from by decide)]
      refine P0.b GX4_readNot 1 (ob := []) (cf' := (51, [some (.ref 0), some (.int (nI o)), none], [.int 0], [pO 3 [.ref 1, .ref 2, .ref 3, .ref 4, .int (nI k180), .int sz180], pI 161 sgn, pI 161 pl, pI 160 cd180, pI 3 ed])) rfl trivial ?_
      exact P0.ri (by decide +kernel) rfl (by rfl) (RQ.no (pnot_not_no h1 hX180) hk180)
    · obtain ⟨k180, cd180, hk180, rfl, hm180, hC180, rfl, rfl⟩ := hq
      show P0 _ _ _ _ (34, [some (.ref 0), some (.int (nI o)), none], [.int 1], [pO 3 [.ref 1, .ref 2, .ref 3, .ref 4, .int (nI k180), .int (nI (z + x180.length))], pI 161 sgn, pI 161 pl, pI 160 cd180, pI 3 ed]) _
      refine P0.b GX4_readNot 1 (ob := []) (cf' := (if (1 : Int32) = 0 then 50 else 37, [some (.ref 0), some (.int (nI o)), none], [], [pO 3 [.ref 1, .ref 2, .ref 3, .ref 4, .int (nI k180), .int (nI (z + x180.length))], pI 161 sgn, pI 161 pl, pI 160 cd180, pI 3 ed])) rfl trivial ?_
      rw [if_neg (show ¬ ((1 : Int32) = 0) from by decide)]
      refine P0.b GX4_readNot 2 (ob := []) (cf' := (40, [some (.ref 0), some (.int (nI o)), none], [.int (-12), .ref 0], [pO 3 [.ref 1, .ref 2, .ref 3, .ref 4, .int (nI k180), .int (nI (z + x180.length))], pI 161 sgn, pI 161 pl, pI 160 cd180, pI 3 ed])) rfl trivial ?_
      have hQh1 := hW.is (k := k) (by omega) h1 (by decide) (by decide)
      refine P0.cd (d0 := 1) (as := [.ref 0, .int (-12)]) (rest := []) (r1 := some (.int 1)) (h1 := [pO 3 [.ref 1, .ref 2, .ref 3, .ref 4, .int (nI k180), .int (nI ((z + x180.length) + 1))], pI 161 sgn, pI 161 pl, pI 160 (upd cd180 (z + x180.length) (-12)), pI 3 ed]) (st' := [.int 1]) GX4_emit kX4_readNot_40 rfl ⟨_, _, rfl, rfl, .inl ⟨_, _, _, _, rfl, rfl⟩⟩ (Nat.le_of_ble_eq_true rfl) (Nat.le_of_ble_eq_true rfl) (emit_n (-12) (by omega)) ((by omega)) rfl (Nat.le_of_ble_eq_true rfl) rfl ?_
      refine P0.b GX4_readNot 1 (ob := []) (cf' := (if (1 : Int32) = 0 then 50 else 46, [some (.ref 0), some (.int (nI o)), none], [], [pO 3 [.ref 1, .ref 2, .ref 3, .ref 4, .int (nI k180), .int (nI ((z + x180.length) + 1))], pI 161 sgn, pI 161 pl, pI 160 (upd cd180 (z + x180.length) (-12)), pI 3 ed])) rfl trivial ?_
      rw [if_neg (show ¬ ((1 : Int32) = 0) from by decide)]
      refine P0.b GX4_readNot 2 (ob := []) (cf' := (51, [some (.ref 0), some (.int (nI o)), none], [.int 1], [pO 3 [.ref 1, .ref 2, .ref 3, .ref 4, .int (nI k180), .int (nI ((z + x180.length) + 1))], pI 161 sgn, pI 161 pl, pI 160 (upd cd180 (z + x180.length) (-12)), pI 3 ed])) rfl trivial ?_
      exact P0.ri (by decide +kernel) rfl (by rfl) (RQ.yes (pnot_not_yes h1 hX180 rfl) hk180 (ln_1 z x180 _) (ln_1b hm180) (hC180.put _))
  · refine P0.b GX4_readNot 3 (ob := []) (cf' := (55, [some (.ref 0), some (.int (nI o)), none], [.int (nI o), .int 2, .ref 0], [pO 3 [.ref 1, .ref 2, .ref 3, .ref 4, .int (nI k), .int (nI z)], pI 161 sgn, pI 161 pl, pI 160 cd, pI 3 ed])) rfl trivial ?_
    refine P0.cs (as := [.ref 0, .int 2, .int (nI o)]) (rest := []) GX4_readChain kX4_readNot_55 rfl ⟨_, _, rfl, rfl, .inl ⟨_, _, _, _, rfl, rfl⟩⟩ (Nat.le_of_ble_eq_true rfl) (Nat.le_of_ble_eq_true rfl) (hS (k) (z) cd (by omega) (by omega)) (Nat.le_of_ble_eq_true rfl) (fun r h' q => q.len) ?_
    intro r h' hq
    rcases hX181 : psum (sg B) (nx B) cA true dE dO (ps B k) with q181 | ⟨x181, p181⟩ <;> rw [hX181] at hq
    · obtain ⟨k181, sz181, cd181, hk181, rfl, rfl, rfl⟩ := hq
      show P0 _ _ _ _ (58, [some (.ref 0), some (.int (nI o)), none], [.int 0], [pO 3 [.ref 1, .ref 2, .ref 3, .ref 4, .int (nI k181), .int sz181], pI 161 sgn, pI 161 pl, pI 160 cd181, pI 3 ed]) _
      refine P0.b GX4_readNot 1 (ob := []) (cf' := (if (0 : Int32) = 0 then 61 else 63, [some (.ref 0), some (.int (nI o)), none], [], [pO 3 [.ref 1, .ref 2, .ref 3, .ref 4, .int (nI k181), .int sz181], pI 161 sgn, pI 161 pl, pI 160 cd181, pI 3 ed])) rfl trivial ?_
      rw [if_pos (show ((0 : Int32) = 0) from by decide)]
      refine P0.b GX4_readNot 1 (ob := []) (cf' := (62, [some (.ref 0), some (.int (nI o)), none], [.int 0], [pO 3 [.ref 1, .ref 2, .ref 3, .ref 4, .int (nI k181), .int sz181], pI 161 sgn, pI 161 pl, pI 160 cd181, pI 3 ed])) rfl trivial ?_
      exact P0.ri (by decide +kernel) rfl (by rfl) (RQ.no (pnot_s1 h1 hX181) hk181)
    · obtain ⟨k181, cd181, hk181, rfl, hm181, hC181, rfl, rfl⟩ := hq
      show P0 _ _ _ _ (58, [some (.ref 0), some (.int (nI o)), none], [.int 1], [pO 3 [.ref 1, .ref 2, .ref 3, .ref 4, .int (nI k181), .int (nI (z + x181.length))], pI 161 sgn, pI 161 pl, pI 160 cd181, pI 3 ed]) _
      refine P0.b GX4_readNot 1 (ob := []) (cf' := (if (1 : Int32) = 0 then 61 else 63, [some (.ref 0), some (.int (nI o)), none], [], [pO 3 [.ref 1, .ref 2, .ref 3, .ref 4, .int (nI k181), .int (nI (z + x181.length))], pI 161 sgn, pI 161 pl, pI 160 cd181, pI 3 ed])) rfl trivial ?_
      rw [if_neg (show ¬ ((1 : Int32) = 0) from by decide)]
      refine P0.b GX4_readNot 1 (ob := []) (cf' := (64, [some (.ref 0), some (.int (nI o)), none], [.ref 0], [pO 3 [.ref 1, .ref 2, .ref 3, .ref 4, .int (nI k181), .int (nI (z + x181.length))], pI 161 sgn, pI 161 pl, pI 160 cd181, pI 3 ed])) rfl trivial ?_
      refine P0.cd (d0 := 0) (as := [.ref 0]) (rest := []) (r1 := some (.int (sg B (ps B k181)))) (h1 := [pO 3 [.ref 1, .ref 2, .ref 3, .ref 4, .int (nI k181), .int (nI (z + x181.length))], pI 161 sgn, pI 161 pl, pI 160 cd181, pI 3 ed]) (st' := [.int (sg B (ps B k181))]) GX4_sign kX4_readNot_64 rfl ⟨_, _, rfl, rfl, .inl ⟨_, _, _, _, rfl, rfl⟩⟩ (Nat.le_of_ble_eq_true rfl) (Nat.le_of_ble_eq_true rfl) (sign_n hW (k := k181) (by omega)) (Nat.zero_le _) rfl (Nat.le_of_ble_eq_true rfl) rfl ?_
      refine P0.b GX4_readNot 4 (ob := []) (cf' := (if sg B (ps B k181) = -19 then 82 else 74, [some (.ref 0), some (.int (nI o)), some (.int (sg B (ps B k181)))], [], [pO 3 [.ref 1, .ref 2, .ref 3, .ref 4, .int (nI k181), .int (nI (z + x181.length))], pI 161 sgn, pI 161 pl, pI 160 cd181, pI 3 ed])) rfl trivial ?_
      refine P0.if (fun h2 => ?_) (fun h2 => ?_)
      · refine P0.b GX4_readNot 6 (ob := []) (cf' := (92, [some (.ref 0), some (.int (nI o)), some (.int (sg B (ps B k181)))], [], [pO 3 [.ref 1, .ref 2, .ref 3, .ref 4, .int ((nI k181) + 1), .int (nI (z + x181.length))], pI 161 sgn, pI 161 pl, pI 160 cd181, pI 3 ed])) rfl trivial ?_
        rw [show (nI k181) + 1 = nI (k181 + 1) from nI_add _ _]
        refine P0.b GX4_readNot 3 (ob := []) (cf' := (95, [some (.ref 0), some (.int (nI o)), some (.int (sg B (ps B k181)))], [.int (nI o), .int 2, .ref 0], [pO 3 [.ref 1, .ref 2, .ref 3, .ref 4, .int (nI (k181 + 1)), .int (nI (z + x181.length))], pI 161 sgn, pI 161 pl, pI 160 cd181, pI 3 ed])) rfl trivial ?_
        have hQh2 := hW.is (k := k181) (by omega) h2 (by decide) (by decide)
        refine P0.cs (as := [.ref 0, .int 2, .int (nI o)]) (rest := []) GX4_readChain kX4_readNot_95 rfl ⟨_, _, rfl, rfl, .inl ⟨_, _, _, _, rfl, rfl⟩⟩ (Nat.le_of_ble_eq_true rfl) (Nat.le_of_ble_eq_true rfl) (hS ((k181 + 1)) ((z + x181.length)) cd181 (by omega) (by omega)) (Nat.le_of_ble_eq_true rfl) (fun r h' q => q.len) ?_
        intro r h' hq
        rcases hX182 : psum (sg B) (nx B) cA true dE dO (ps B (k181 + 1)) with q182 | ⟨x182, p182⟩ <;> rw [hX182] at hq
        · obtain ⟨k182, sz182, cd182, hk182, rfl, rfl, rfl⟩ := hq
          show P0 _ _ _ _ (98, [some (.ref 0), some (.int (nI o)), some (.int (sg B (ps B k181)))], [.int 0], [pO 3 [.ref 1, .ref 2, .ref 3, .ref 4, .int (nI k182), .int sz182], pI 161 sgn, pI 161 pl, pI 160 cd182, pI 3 ed]) _
          refine P0.b GX4_readNot 1 (ob := []) (cf' := (if (0 : Int32) = 0 then 113 else 101, [some (.ref 0), some (.int (nI o)), some (.int (sg B (ps B k181)))], [], [pO 3 [.ref 1, .ref 2, .ref 3, .ref 4, .int (nI k182), .int sz182], pI 161 sgn, pI 161 pl, pI 160 cd182, pI 3 ed])) rfl trivial ?_
          rw [if_pos (show ((0 : Int32) = 0) from by decide)]
          refine P0.b GX4_readNot 1 (ob := []) (cf' := (114, [some (.ref 0), some (.int (nI o)), some (.int (sg B (ps B k181)))], [.int 0], [pO 3 [.ref 1, .ref 2, .ref 3, .ref 4, .int (nI k182), .int sz182], pI 161 sgn, pI 161 pl, pI 160 cd182, pI 3 ed])) rfl trivial ?_
          exact P0.ri (by decide +kernel) rfl (by rfl) (RQ.no (pnot_s3 h1 hX181 (.inl h2) hX182) hk182)
        · obtain ⟨k182, cd182, hk182, rfl, hm182, hC182, rfl, rfl⟩ := hq
          show P0 _ _ _ _ (98, [some (.ref 0), some (.int (nI o)), some (.int (sg B (ps B k181)))], [.int 1], [pO 3 [.ref 1, .ref 2, .ref 3, .ref 4, .int (nI k182), .int (nI ((z + x181.length) + x182.length))], pI 161 sgn, pI 161 pl, pI 160 cd182, pI 3 ed]) _
          refine P0.b GX4_readNot 1 (ob := []) (cf' := (if (1 : Int32) = 0 then 113 else 101, [some (.ref 0), some (.int (nI o)), some (.int (sg B (ps B k181)))], [], [pO 3 [.ref 1, .ref 2, .ref 3, .ref 4, .int (nI k182), .int (nI ((z + x181.length) + x182.length))], pI 161 sgn, pI 161 pl, pI 160 cd182, pI 3 ed])) rfl trivial ?_
          rw [if_neg (show ¬ ((1 : Int32) = 0) from by decide)]
          refine P0.b GX4_readNot 2 (ob := []) (cf' := (103, [some (.ref 0), some (.int (nI o)), some (.int (sg B (ps B k181)))], [.int (sg B (ps B k181)), .ref 0], [pO 3 [.ref 1, .ref 2, .ref 3, .ref 4, .int (nI k182), .int (nI ((z + x181.length) + x182.length))], pI 161 sgn, pI 161 pl, pI 160 cd182, pI 3 ed])) rfl trivial ?_
          have hQh2 := hW.is (k := k181) (by omega) h2 (by decide) (by decide)
          refine P0.cd (d0 := 1) (as := [.ref 0, .int (sg B (ps B k181))]) (rest := []) (r1 := some (.int 1)) (h1 := [pO 3 [.ref 1, .ref 2, .ref 3, .ref 4, .int (nI k182), .int (nI (((z + x181.length) + x182.length) + 1))], pI 161 sgn, pI 161 pl, pI 160 (upd cd182 ((z + x181.length) + x182.length) (sg B (ps B k181))), pI 3 ed]) (st' := [.int 1]) GX4_emit kX4_readNot_103 rfl ⟨_, _, rfl, rfl, .inl ⟨_, _, _, _, rfl, rfl⟩⟩ (Nat.le_of_ble_eq_true rfl) (Nat.le_of_ble_eq_true rfl) (emit_n (sg B (ps B k181)) (by omega)) ((by omega)) rfl (Nat.le_of_ble_eq_true rfl) rfl ?_
          refine P0.b GX4_readNot 1 (ob := []) (cf' := (if (1 : Int32) = 0 then 113 else 109, [some (.ref 0), some (.int (nI o)), some (.int (sg B (ps B k181)))], [], [pO 3 [.ref 1, .ref 2, .ref 3, .ref 4, .int (nI k182), .int (nI (((z + x181.length) + x182.length) + 1))], pI 161 sgn, pI 161 pl, pI 160 (upd cd182 ((z + x181.length) + x182.length) (sg B (ps B k181))), pI 3 ed])) rfl trivial ?_
          rw [if_neg (show ¬ ((1 : Int32) = 0) from by decide)]
          refine P0.b GX4_readNot 2 (ob := []) (cf' := (114, [some (.ref 0), some (.int (nI o)), some (.int (sg B (ps B k181)))], [.int 1], [pO 3 [.ref 1, .ref 2, .ref 3, .ref 4, .int (nI k182), .int (nI (((z + x181.length) + x182.length) + 1))], pI 161 sgn, pI 161 pl, pI 160 (upd cd182 ((z + x181.length) + x182.length) (sg B (ps B k181))), pI 3 ed])) rfl trivial ?_
          exact P0.ri (by decide +kernel) rfl (by rfl) (RQ.yes (pnot_s4 h1 hX181 (.inl h2) hX182) hk182 (ln_2 z x181 x182 _) (ln_2b hm181 hm182) (Cd.bin hC181 hC182 _))
      · refine P0.b GX4_readNot 3 (ob := []) (cf' := (if sg B (ps B k181) = -20 then 82 else 80, [some (.ref 0), some (.int (nI o)), some (.int (sg B (ps B k181)))], [], [pO 3 [.ref 1, .ref 2, .ref 3, .ref 4, .int (nI k181), .int (nI (z + x181.length))], pI 161 sgn, pI 161 pl, pI 160 cd181, pI 3 ed])) rfl trivial ?_
        refine P0.if (fun h3 => ?_) (fun h3 => ?_)
        · refine P0.b GX4_readNot 6 (ob := []) (cf' := (92, [some (.ref 0), some (.int (nI o)), some (.int (sg B (ps B k181)))], [], [pO 3 [.ref 1, .ref 2, .ref 3, .ref 4, .int ((nI k181) + 1), .int (nI (z + x181.length))], pI 161 sgn, pI 161 pl, pI 160 cd181, pI 3 ed])) rfl trivial ?_
          rw [show (nI k181) + 1 = nI (k181 + 1) from nI_add _ _]
          refine P0.b GX4_readNot 3 (ob := []) (cf' := (95, [some (.ref 0), some (.int (nI o)), some (.int (sg B (ps B k181)))], [.int (nI o), .int 2, .ref 0], [pO 3 [.ref 1, .ref 2, .ref 3, .ref 4, .int (nI (k181 + 1)), .int (nI (z + x181.length))], pI 161 sgn, pI 161 pl, pI 160 cd181, pI 3 ed])) rfl trivial ?_
          have hQh3 := hW.is (k := k181) (by omega) h3 (by decide) (by decide)
          refine P0.cs (as := [.ref 0, .int 2, .int (nI o)]) (rest := []) GX4_readChain kX4_readNot_95 rfl ⟨_, _, rfl, rfl, .inl ⟨_, _, _, _, rfl, rfl⟩⟩ (Nat.le_of_ble_eq_true rfl) (Nat.le_of_ble_eq_true rfl) (hS ((k181 + 1)) ((z + x181.length)) cd181 (by omega) (by omega)) (Nat.le_of_ble_eq_true rfl) (fun r h' q => q.len) ?_
          intro r h' hq
          rcases hX183 : psum (sg B) (nx B) cA true dE dO (ps B (k181 + 1)) with q183 | ⟨x183, p183⟩ <;> rw [hX183] at hq
          · obtain ⟨k183, sz183, cd183, hk183, rfl, rfl, rfl⟩ := hq
            show P0 _ _ _ _ (98, [some (.ref 0), some (.int (nI o)), some (.int (sg B (ps B k181)))], [.int 0], [pO 3 [.ref 1, .ref 2, .ref 3, .ref 4, .int (nI k183), .int sz183], pI 161 sgn, pI 161 pl, pI 160 cd183, pI 3 ed]) _
            refine P0.b GX4_readNot 1 (ob := []) (cf' := (if (0 : Int32) = 0 then 113 else 101, [some (.ref 0), some (.int (nI o)), some (.int (sg B (ps B k181)))], [], [pO 3 [.ref 1, .ref 2, .ref 3, .ref 4, .int (nI k183), .int sz183], pI 161 sgn, pI 161 pl, pI 160 cd183, pI 3 ed])) rfl trivial ?_
            rw [if_pos (show ((0 : Int32) = 0) from by decide)]
            refine P0.b GX4_readNot 1 (ob := []) (cf' := (114, [some (.ref 0), some (.int (nI o)), some (.int (sg B (ps B k181)))], [.int 0], [pO 3 [.ref 1, .ref 2, .ref 3, .ref 4, .int (nI k183), .int sz183], pI 161 sgn, pI 161 pl, pI 160 cd183, pI 3 ed])) rfl trivial ?_
            exact P0.ri (by decide +kernel) rfl (by rfl) (RQ.no (pnot_s3 h1 hX181 (.inr h3) hX183) hk183)
          · obtain ⟨k183, cd183, hk183, rfl, hm183, hC183, rfl, rfl⟩ := hq
            show P0 _ _ _ _ (98, [some (.ref 0), some (.int (nI o)), some (.int (sg B (ps B k181)))], [.int 1], [pO 3 [.ref 1, .ref 2, .ref 3, .ref 4, .int (nI k183), .int (nI ((z + x181.length) + x183.length))], pI 161 sgn, pI 161 pl, pI 160 cd183, pI 3 ed]) _
            refine P0.b GX4_readNot 1 (ob := []) (cf' := (if (1 : Int32) = 0 then 113 else 101, [some (.ref 0), some (.int (nI o)), some (.int (sg B (ps B k181)))], [], [pO 3 [.ref 1, .ref 2, .ref 3, .ref 4, .int (nI k183), .int (nI ((z + x181.length) + x183.length))], pI 161 sgn, pI 161 pl, pI 160 cd183, pI 3 ed])) rfl trivial ?_
            rw [if_neg (show ¬ ((1 : Int32) = 0) from by decide)]
            refine P0.b GX4_readNot 2 (ob := []) (cf' := (103, [some (.ref 0), some (.int (nI o)), some (.int (sg B (ps B k181)))], [.int (sg B (ps B k181)), .ref 0], [pO 3 [.ref 1, .ref 2, .ref 3, .ref 4, .int (nI k183), .int (nI ((z + x181.length) + x183.length))], pI 161 sgn, pI 161 pl, pI 160 cd183, pI 3 ed])) rfl trivial ?_
            have hQh3 := hW.is (k := k181) (by omega) h3 (by decide) (by decide)
            refine P0.cd (d0 := 1) (as := [.ref 0, .int (sg B (ps B k181))]) (rest := []) (r1 := some (.int 1)) (h1 := [pO 3 [.ref 1, .ref 2, .ref 3, .ref 4, .int (nI k183), .int (nI (((z + x181.length) + x183.length) + 1))], pI 161 sgn, pI 161 pl, pI 160 (upd cd183 ((z + x181.length) + x183.length) (sg B (ps B k181))), pI 3 ed]) (st' := [.int 1]) GX4_emit kX4_readNot_103 rfl ⟨_, _, rfl, rfl, .inl ⟨_, _, _, _, rfl, rfl⟩⟩ (Nat.le_of_ble_eq_true rfl) (Nat.le_of_ble_eq_true rfl) (emit_n (sg B (ps B k181)) (by omega)) ((by omega)) rfl (Nat.le_of_ble_eq_true rfl) rfl ?_
            refine P0.b GX4_readNot 1 (ob := []) (cf' := (if (1 : Int32) = 0 then 113 else 109, [some (.ref 0), some (.int (nI o)), some (.int (sg B (ps B k181)))], [], [pO 3 [.ref 1, .ref 2, .ref 3, .ref 4, .int (nI k183), .int (nI (((z + x181.length) + x183.length) + 1))], pI 161 sgn, pI 161 pl, pI 160 (upd cd183 ((z + x181.length) + x183.length) (sg B (ps B k181))), pI 3 ed])) rfl trivial ?_
            rw [if_neg (show ¬ ((1 : Int32) = 0) from by decide)]
            refine P0.b GX4_readNot 2 (ob := []) (cf' := (114, [some (.ref 0), some (.int (nI o)), some (.int (sg B (ps B k181)))], [.int 1], [pO 3 [.ref 1, .ref 2, .ref 3, .ref 4, .int (nI k183), .int (nI (((z + x181.length) + x183.length) + 1))], pI 161 sgn, pI 161 pl, pI 160 (upd cd183 ((z + x181.length) + x183.length) (sg B (ps B k181))), pI 3 ed])) rfl trivial ?_
            exact P0.ri (by decide +kernel) rfl (by rfl) (RQ.yes (pnot_s4 h1 hX181 (.inr h3) hX183) hk183 (ln_2 z x181 x183 _) (ln_2b hm181 hm183) (Cd.bin hC181 hC183 _))
        · refine P0.b GX4_readNot 1 (ob := []) (cf' := (81, [some (.ref 0), some (.int (nI o)), some (.int (sg B (ps B k181)))], [.int 1], [pO 3 [.ref 1, .ref 2, .ref 3, .ref 4, .int (nI k181), .int (nI (z + x181.length))], pI 161 sgn, pI 161 pl, pI 160 cd181, pI 3 ed])) rfl trivial ?_
          exact P0.ri (by decide +kernel) rfl (by rfl) (RQ.yes (pnot_s2 h1 hX181 h2 h3) hk181 rfl hm181 hC181)
theorem not_f {B sgn pl ed : Nat → Int32} {K : Nat} (hW : RW B sgn pl K) {D : Nat} {dE dN dO : Nat → PR (List Int32)} (hS : (∀ (k z : Nat) (cd : Nat → Int32), k ≤ K → z ≤ k → P0 (D + 1) 0 0 mX4_readChain (0, ent 6 [.ref 0, .int 2, .int 5], [], [pO 3 [.ref 1, .ref 2, .ref 3, .ref 4, .int (nI k), .int (nI z)], pI 161 sgn, pI 161 pl, pI 160 cd, pI 3 ed]) (RQ B sgn pl ed K k z cd (psum (sg B) (nx B) cA false dE dO (ps B k))))) : (∀ (k z : Nat) (cd : Nat → Int32), k ≤ K → z ≤ k → P0 (D + 2) 0 0 mX4_readNot (0, ent 3 [.ref 0, .int 5], [], [pO 3 [.ref 1, .ref 2, .ref 3, .ref 4, .int (nI k), .int (nI z)], pI 161 sgn, pI 161 pl, pI 160 cd, pI 3 ed]) (RQ B sgn pl ed K k z cd (pnot (sg B) (nx B) cA false dE dN dO (ps B k)))) := by
  intro k z cd hk hzk
  have hK := hW.1
  refine P0.b GX4_readNot 1 (ob := []) (cf' := (1, [some (.ref 0), some (.int 5), none], [.ref 0], [pO 3 [.ref 1, .ref 2, .ref 3, .ref 4, .int (nI k), .int (nI z)], pI 161 sgn, pI 161 pl, pI 160 cd, pI 3 ed])) rfl trivial ?_
  refine P0.cd (d0 := 0) (as := [.ref 0]) (rest := []) (r1 := some (.int (sg B (ps B k)))) (h1 := [pO 3 [.ref 1, .ref 2, .ref 3, .ref 4, .int (nI k), .int (nI z)], pI 161 sgn, pI 161 pl, pI 160 cd, pI 3 ed]) (st' := [.int (sg B (ps B k))]) GX4_sign kX4_readNot_1 rfl ⟨_, _, rfl, rfl, .inl ⟨_, _, _, _, rfl, rfl⟩⟩ (Nat.le_of_ble_eq_true rfl) (Nat.le_of_ble_eq_true rfl) (sign_n hW (k := k) (by omega)) (Nat.zero_le _) rfl (Nat.le_of_ble_eq_true rfl) rfl ?_
  refine P0.b GX4_readNot 2 (ob := []) (cf' := (if sg B (ps B k) = -12 then 9 else 52, [some (.ref 0), some (.int 5), none], [], [pO 3 [.ref 1, .ref 2, .ref 3, .ref 4, .int (nI k), .int (nI z)], pI 161 sgn, pI 161 pl, pI 160 cd, pI 3 ed])) rfl trivial ?_
  refine P0.if (fun h1 => ?_) (fun h1 => ?_)
  · refine P0.b GX4_readNot 3 (ob := []) (cf' := (if (5 : Int32) < 5 then 16 else 14, [some (.ref 0), some (.int 5), none], [], [pO 3 [.ref 1, .ref 2, .ref 3, .ref 4, .int (nI k), .int (nI z)], pI 161 sgn, pI 161 pl, pI 160 cd, pI 3 ed])) rfl trivial ?_
    rw [if_neg (show ¬ ((5 : Int32) < 5) from by decide)]
    refine P0.b GX4_readNot 1 (ob := []) (cf' := (15, [some (.ref 0), some (.int 5), none], [.int 0], [pO 3 [.ref 1, .ref 2, .ref 3, .ref 4, .int (nI k), .int (nI z)], pI 161 sgn, pI 161 pl, pI 160 cd, pI 3 ed])) rfl trivial ?_
    exact P0.ri (by decide +kernel) rfl (by rfl) (RQ.no (k' := k) (pnot_not h1) hk)
  · refine P0.b GX4_readNot 3 (ob := []) (cf' := (55, [some (.ref 0), some (.int 5), none], [.int 5, .int 2, .ref 0], [pO 3 [.ref 1, .ref 2, .ref 3, .ref 4, .int (nI k), .int (nI z)], pI 161 sgn, pI 161 pl, pI 160 cd, pI 3 ed])) rfl trivial ?_
    refine P0.cs (as := [.ref 0, .int 2, .int 5]) (rest := []) GX4_readChain kX4_readNot_55 rfl ⟨_, _, rfl, rfl, .inl ⟨_, _, _, _, rfl, rfl⟩⟩ (Nat.le_of_ble_eq_true rfl) (Nat.le_of_ble_eq_true rfl) (hS (k) (z) cd (by omega) (by omega)) (Nat.le_of_ble_eq_true rfl) (fun r h' q => q.len) ?_
    intro r h' hq
    rcases hX184 : psum (sg B) (nx B) cA false dE dO (ps B k) with q184 | ⟨x184, p184⟩ <;> rw [hX184] at hq
    · obtain ⟨k184, sz184, cd184, hk184, rfl, rfl, rfl⟩ := hq
      show P0 _ _ _ _ (58, [some (.ref 0), some (.int 5), none], [.int 0], [pO 3 [.ref 1, .ref 2, .ref 3, .ref 4, .int (nI k184), .int sz184], pI 161 sgn, pI 161 pl, pI 160 cd184, pI 3 ed]) _
      refine P0.b GX4_readNot 1 (ob := []) (cf' := (if (0 : Int32) = 0 then 61 else 63, [some (.ref 0), some (.int 5), none], [], [pO 3 [.ref 1, .ref 2, .ref 3, .ref 4, .int (nI k184), .int sz184], pI 161 sgn, pI 161 pl, pI 160 cd184, pI 3 ed])) rfl trivial ?_
      rw [if_pos (show ((0 : Int32) = 0) from by decide)]
      refine P0.b GX4_readNot 1 (ob := []) (cf' := (62, [some (.ref 0), some (.int 5), none], [.int 0], [pO 3 [.ref 1, .ref 2, .ref 3, .ref 4, .int (nI k184), .int sz184], pI 161 sgn, pI 161 pl, pI 160 cd184, pI 3 ed])) rfl trivial ?_
      exact P0.ri (by decide +kernel) rfl (by rfl) (RQ.no (pnot_s1 h1 hX184) hk184)
    · obtain ⟨k184, cd184, hk184, rfl, hm184, hC184, rfl, rfl⟩ := hq
      show P0 _ _ _ _ (58, [some (.ref 0), some (.int 5), none], [.int 1], [pO 3 [.ref 1, .ref 2, .ref 3, .ref 4, .int (nI k184), .int (nI (z + x184.length))], pI 161 sgn, pI 161 pl, pI 160 cd184, pI 3 ed]) _
      refine P0.b GX4_readNot 1 (ob := []) (cf' := (if (1 : Int32) = 0 then 61 else 63, [some (.ref 0), some (.int 5), none], [], [pO 3 [.ref 1, .ref 2, .ref 3, .ref 4, .int (nI k184), .int (nI (z + x184.length))], pI 161 sgn, pI 161 pl, pI 160 cd184, pI 3 ed])) rfl trivial ?_
      rw [if_neg (show ¬ ((1 : Int32) = 0) from by decide)]
      refine P0.b GX4_readNot 1 (ob := []) (cf' := (64, [some (.ref 0), some (.int 5), none], [.ref 0], [pO 3 [.ref 1, .ref 2, .ref 3, .ref 4, .int (nI k184), .int (nI (z + x184.length))], pI 161 sgn, pI 161 pl, pI 160 cd184, pI 3 ed])) rfl trivial ?_
      refine P0.cd (d0 := 0) (as := [.ref 0]) (rest := []) (r1 := some (.int (sg B (ps B k184)))) (h1 := [pO 3 [.ref 1, .ref 2, .ref 3, .ref 4, .int (nI k184), .int (nI (z + x184.length))], pI 161 sgn, pI 161 pl, pI 160 cd184, pI 3 ed]) (st' := [.int (sg B (ps B k184))]) GX4_sign kX4_readNot_64 rfl ⟨_, _, rfl, rfl, .inl ⟨_, _, _, _, rfl, rfl⟩⟩ (Nat.le_of_ble_eq_true rfl) (Nat.le_of_ble_eq_true rfl) (sign_n hW (k := k184) (by omega)) (Nat.zero_le _) rfl (Nat.le_of_ble_eq_true rfl) rfl ?_
      refine P0.b GX4_readNot 4 (ob := []) (cf' := (if sg B (ps B k184) = -19 then 82 else 74, [some (.ref 0), some (.int 5), some (.int (sg B (ps B k184)))], [], [pO 3 [.ref 1, .ref 2, .ref 3, .ref 4, .int (nI k184), .int (nI (z + x184.length))], pI 161 sgn, pI 161 pl, pI 160 cd184, pI 3 ed])) rfl trivial ?_
      refine P0.if (fun h2 => ?_) (fun h2 => ?_)
      · refine P0.b GX4_readNot 6 (ob := []) (cf' := (92, [some (.ref 0), some (.int 5), some (.int (sg B (ps B k184)))], [], [pO 3 [.ref 1, .ref 2, .ref 3, .ref 4, .int ((nI k184) + 1), .int (nI (z + x184.length))], pI 161 sgn, pI 161 pl, pI 160 cd184, pI 3 ed])) rfl trivial ?_
        rw [show (nI k184) + 1 = nI (k184 + 1) from nI_add _ _]
        refine P0.b GX4_readNot 3 (ob := []) (cf' := (95, [some (.ref 0), some (.int 5), some (.int (sg B (ps B k184)))], [.int 5, .int 2, .ref 0], [pO 3 [.ref 1, .ref 2, .ref 3, .ref 4, .int (nI (k184 + 1)), .int (nI (z + x184.length))], pI 161 sgn, pI 161 pl, pI 160 cd184, pI 3 ed])) rfl trivial ?_
        have hQh2 := hW.is (k := k184) (by omega) h2 (by decide) (by decide)
        refine P0.cs (as := [.ref 0, .int 2, .int 5]) (rest := []) GX4_readChain kX4_readNot_95 rfl ⟨_, _, rfl, rfl, .inl ⟨_, _, _, _, rfl, rfl⟩⟩ (Nat.le_of_ble_eq_true rfl) (Nat.le_of_ble_eq_true rfl) (hS ((k184 + 1)) ((z + x184.length)) cd184 (by omega) (by omega)) (Nat.le_of_ble_eq_true rfl) (fun r h' q => q.len) ?_
        intro r h' hq
        rcases hX185 : psum (sg B) (nx B) cA false dE dO (ps B (k184 + 1)) with q185 | ⟨x185, p185⟩ <;> rw [hX185] at hq
        · obtain ⟨k185, sz185, cd185, hk185, rfl, rfl, rfl⟩ := hq
          show P0 _ _ _ _ (98, [some (.ref 0), some (.int 5), some (.int (sg B (ps B k184)))], [.int 0], [pO 3 [.ref 1, .ref 2, .ref 3, .ref 4, .int (nI k185), .int sz185], pI 161 sgn, pI 161 pl, pI 160 cd185, pI 3 ed]) _
          refine P0.b GX4_readNot 1 (ob := []) (cf' := (if (0 : Int32) = 0 then 113 else 101, [some (.ref 0), some (.int 5), some (.int (sg B (ps B k184)))], [], [pO 3 [.ref 1, .ref 2, .ref 3, .ref 4, .int (nI k185), .int sz185], pI 161 sgn, pI 161 pl, pI 160 cd185, pI 3 ed])) rfl trivial ?_
          rw [if_pos (show ((0 : Int32) = 0) from by decide)]
          refine P0.b GX4_readNot 1 (ob := []) (cf' := (114, [some (.ref 0), some (.int 5), some (.int (sg B (ps B k184)))], [.int 0], [pO 3 [.ref 1, .ref 2, .ref 3, .ref 4, .int (nI k185), .int sz185], pI 161 sgn, pI 161 pl, pI 160 cd185, pI 3 ed])) rfl trivial ?_
          exact P0.ri (by decide +kernel) rfl (by rfl) (RQ.no (pnot_s3 h1 hX184 (.inl h2) hX185) hk185)
        · obtain ⟨k185, cd185, hk185, rfl, hm185, hC185, rfl, rfl⟩ := hq
          show P0 _ _ _ _ (98, [some (.ref 0), some (.int 5), some (.int (sg B (ps B k184)))], [.int 1], [pO 3 [.ref 1, .ref 2, .ref 3, .ref 4, .int (nI k185), .int (nI ((z + x184.length) + x185.length))], pI 161 sgn, pI 161 pl, pI 160 cd185, pI 3 ed]) _
          refine P0.b GX4_readNot 1 (ob := []) (cf' := (if (1 : Int32) = 0 then 113 else 101, [some (.ref 0), some (.int 5), some (.int (sg B (ps B k184)))], [], [pO 3 [.ref 1, .ref 2, .ref 3, .ref 4, .int (nI k185), .int (nI ((z + x184.length) + x185.length))], pI 161 sgn, pI 161 pl, pI 160 cd185, pI 3 ed])) rfl trivial ?_
          rw [if_neg (show ¬ ((1 : Int32) = 0) from by decide)]
          refine P0.b GX4_readNot 2 (ob := []) (cf' := (103, [some (.ref 0), some (.int 5), some (.int (sg B (ps B k184)))], [.int (sg B (ps B k184)), .ref 0], [pO 3 [.ref 1, .ref 2, .ref 3, .ref 4, .int (nI k185), .int (nI ((z + x184.length) + x185.length))], pI 161 sgn, pI 161 pl, pI 160 cd185, pI 3 ed])) rfl trivial ?_
          have hQh2 := hW.is (k := k184) (by omega) h2 (by decide) (by decide)
          refine P0.cd (d0 := 1) (as := [.ref 0, .int (sg B (ps B k184))]) (rest := []) (r1 := some (.int 1)) (h1 := [pO 3 [.ref 1, .ref 2, .ref 3, .ref 4, .int (nI k185), .int (nI (((z + x184.length) + x185.length) + 1))], pI 161 sgn, pI 161 pl, pI 160 (upd cd185 ((z + x184.length) + x185.length) (sg B (ps B k184))), pI 3 ed]) (st' := [.int 1]) GX4_emit kX4_readNot_103 rfl ⟨_, _, rfl, rfl, .inl ⟨_, _, _, _, rfl, rfl⟩⟩ (Nat.le_of_ble_eq_true rfl) (Nat.le_of_ble_eq_true rfl) (emit_n (sg B (ps B k184)) (by omega)) ((by omega)) rfl (Nat.le_of_ble_eq_true rfl) rfl ?_
          refine P0.b GX4_readNot 1 (ob := []) (cf' := (if (1 : Int32) = 0 then 113 else 109, [some (.ref 0), some (.int 5), some (.int (sg B (ps B k184)))], [], [pO 3 [.ref 1, .ref 2, .ref 3, .ref 4, .int (nI k185), .int (nI (((z + x184.length) + x185.length) + 1))], pI 161 sgn, pI 161 pl, pI 160 (upd cd185 ((z + x184.length) + x185.length) (sg B (ps B k184))), pI 3 ed])) rfl trivial ?_
          rw [if_neg (show ¬ ((1 : Int32) = 0) from by decide)]
          refine P0.b GX4_readNot 2 (ob := []) (cf' := (114, [some (.ref 0), some (.int 5), some (.int (sg B (ps B k184)))], [.int 1], [pO 3 [.ref 1, .ref 2, .ref 3, .ref 4, .int (nI k185), .int (nI (((z + x184.length) + x185.length) + 1))], pI 161 sgn, pI 161 pl, pI 160 (upd cd185 ((z + x184.length) + x185.length) (sg B (ps B k184))), pI 3 ed])) rfl trivial ?_
          exact P0.ri (by decide +kernel) rfl (by rfl) (RQ.yes (pnot_s4 h1 hX184 (.inl h2) hX185) hk185 (ln_2 z x184 x185 _) (ln_2b hm184 hm185) (Cd.bin hC184 hC185 _))
      · refine P0.b GX4_readNot 3 (ob := []) (cf' := (if sg B (ps B k184) = -20 then 82 else 80, [some (.ref 0), some (.int 5), some (.int (sg B (ps B k184)))], [], [pO 3 [.ref 1, .ref 2, .ref 3, .ref 4, .int (nI k184), .int (nI (z + x184.length))], pI 161 sgn, pI 161 pl, pI 160 cd184, pI 3 ed])) rfl trivial ?_
        refine P0.if (fun h3 => ?_) (fun h3 => ?_)
        · refine P0.b GX4_readNot 6 (ob := []) (cf' := (92, [some (.ref 0), some (.int 5), some (.int (sg B (ps B k184)))], [], [pO 3 [.ref 1, .ref 2, .ref 3, .ref 4, .int ((nI k184) + 1), .int (nI (z + x184.length))], pI 161 sgn, pI 161 pl, pI 160 cd184, pI 3 ed])) rfl trivial ?_
          rw [show (nI k184) + 1 = nI (k184 + 1) from nI_add _ _]
          refine P0.b GX4_readNot 3 (ob := []) (cf' := (95, [some (.ref 0), some (.int 5), some (.int (sg B (ps B k184)))], [.int 5, .int 2, .ref 0], [pO 3 [.ref 1, .ref 2, .ref 3, .ref 4, .int (nI (k184 + 1)), .int (nI (z + x184.length))], pI 161 sgn, pI 161 pl, pI 160 cd184, pI 3 ed])) rfl trivial ?_
          have hQh3 := hW.is (k := k184) (by omega) h3 (by decide) (by decide)
          refine P0.cs (as := [.ref 0, .int 2, .int 5]) (rest := []) GX4_readChain kX4_readNot_95 rfl ⟨_, _, rfl, rfl, .inl ⟨_, _, _, _, rfl, rfl⟩⟩ (Nat.le_of_ble_eq_true rfl) (Nat.le_of_ble_eq_true rfl) (hS ((k184 + 1)) ((z + x184.length)) cd184 (by omega) (by omega)) (Nat.le_of_ble_eq_true rfl) (fun r h' q => q.len) ?_
          intro r h' hq
          rcases hX186 : psum (sg B) (nx B) cA false dE dO (ps B (k184 + 1)) with q186 | ⟨x186, p186⟩ <;> rw [hX186] at hq
          · obtain ⟨k186, sz186, cd186, hk186, rfl, rfl, rfl⟩ := hq
            show P0 _ _ _ _ (98, [some (.ref 0), some (.int 5), some (.int (sg B (ps B k184)))], [.int 0], [pO 3 [.ref 1, .ref 2, .ref 3, .ref 4, .int (nI k186), .int sz186], pI 161 sgn, pI 161 pl, pI 160 cd186, pI 3 ed]) _
            refine P0.b GX4_readNot 1 (ob := []) (cf' := (if (0 : Int32) = 0 then 113 else 101, [some (.ref 0), some (.int 5), some (.int (sg B (ps B k184)))], [], [pO 3 [.ref 1, .ref 2, .ref 3, .ref 4, .int (nI k186), .int sz186], pI 161 sgn, pI 161 pl, pI 160 cd186, pI 3 ed])) rfl trivial ?_
            rw [if_pos (show ((0 : Int32) = 0) from by decide)]
            refine P0.b GX4_readNot 1 (ob := []) (cf' := (114, [some (.ref 0), some (.int 5), some (.int (sg B (ps B k184)))], [.int 0], [pO 3 [.ref 1, .ref 2, .ref 3, .ref 4, .int (nI k186), .int sz186], pI 161 sgn, pI 161 pl, pI 160 cd186, pI 3 ed])) rfl trivial ?_
            exact P0.ri (by decide +kernel) rfl (by rfl) (RQ.no (pnot_s3 h1 hX184 (.inr h3) hX186) hk186)
          · obtain ⟨k186, cd186, hk186, rfl, hm186, hC186, rfl, rfl⟩ := hq
            show P0 _ _ _ _ (98, [some (.ref 0), some (.int 5), some (.int (sg B (ps B k184)))], [.int 1], [pO 3 [.ref 1, .ref 2, .ref 3, .ref 4, .int (nI k186), .int (nI ((z + x184.length) + x186.length))], pI 161 sgn, pI 161 pl, pI 160 cd186, pI 3 ed]) _
            refine P0.b GX4_readNot 1 (ob := []) (cf' := (if (1 : Int32) = 0 then 113 else 101, [some (.ref 0), some (.int 5), some (.int (sg B (ps B k184)))], [], [pO 3 [.ref 1, .ref 2, .ref 3, .ref 4, .int (nI k186), .int (nI ((z + x184.length) + x186.length))], pI 161 sgn, pI 161 pl, pI 160 cd186, pI 3 ed])) rfl trivial ?_
            rw [if_neg (show ¬ ((1 : Int32) = 0) from by decide)]
            refine P0.b GX4_readNot 2 (ob := []) (cf' := (103, [some (.ref 0), some (.int 5), some (.int (sg B (ps B k184)))], [.int (sg B (ps B k184)), .ref 0], [pO 3 [.ref 1, .ref 2, .ref 3, .ref 4, .int (nI k186), .int (nI ((z + x184.length) + x186.length))], pI 161 sgn, pI 161 pl, pI 160 cd186, pI 3 ed])) rfl trivial ?_
            have hQh3 := hW.is (k := k184) (by omega) h3 (by decide) (by decide)
            refine P0.cd (d0 := 1) (as := [.ref 0, .int (sg B (ps B k184))]) (rest := []) (r1 := some (.int 1)) (h1 := [pO 3 [.ref 1, .ref 2, .ref 3, .ref 4, .int (nI k186), .int (nI (((z + x184.length) + x186.length) + 1))], pI 161 sgn, pI 161 pl, pI 160 (upd cd186 ((z + x184.length) + x186.length) (sg B (ps B k184))), pI 3 ed]) (st' := [.int 1]) GX4_emit kX4_readNot_103 rfl ⟨_, _, rfl, rfl, .inl ⟨_, _, _, _, rfl, rfl⟩⟩ (Nat.le_of_ble_eq_true rfl) (Nat.le_of_ble_eq_true rfl) (emit_n (sg B (ps B k184)) (by omega)) ((by omega)) rfl (Nat.le_of_ble_eq_true rfl) rfl ?_
            refine P0.b GX4_readNot 1 (ob := []) (cf' := (if (1 : Int32) = 0 then 113 else 109, [some (.ref 0), some (.int 5), some (.int (sg B (ps B k184)))], [], [pO 3 [.ref 1, .ref 2, .ref 3, .ref 4, .int (nI k186), .int (nI (((z + x184.length) + x186.length) + 1))], pI 161 sgn, pI 161 pl, pI 160 (upd cd186 ((z + x184.length) + x186.length) (sg B (ps B k184))), pI 3 ed])) rfl trivial ?_
            rw [if_neg (show ¬ ((1 : Int32) = 0) from by decide)]
            refine P0.b GX4_readNot 2 (ob := []) (cf' := (114, [some (.ref 0), some (.int 5), some (.int (sg B (ps B k184)))], [.int 1], [pO 3 [.ref 1, .ref 2, .ref 3, .ref 4, .int (nI k186), .int (nI (((z + x184.length) + x186.length) + 1))], pI 161 sgn, pI 161 pl, pI 160 (upd cd186 ((z + x184.length) + x186.length) (sg B (ps B k184))), pI 3 ed])) rfl trivial ?_
            exact P0.ri (by decide +kernel) rfl (by rfl) (RQ.yes (pnot_s4 h1 hX184 (.inr h3) hX186) hk186 (ln_2 z x184 x186 _) (ln_2b hm184 hm186) (Cd.bin hC184 hC186 _))
        · refine P0.b GX4_readNot 1 (ob := []) (cf' := (81, [some (.ref 0), some (.int 5), some (.int (sg B (ps B k184)))], [.int 1], [pO 3 [.ref 1, .ref 2, .ref 3, .ref 4, .int (nI k184), .int (nI (z + x184.length))], pI 161 sgn, pI 161 pl, pI 160 cd184, pI 3 ed])) rfl trivial ?_
          exact P0.ri (by decide +kernel) rfl (by rfl) (RQ.yes (pnot_s2 h1 hX184 h2 h3) hk184 rfl hm184 hC184)
theorem chl_0 {B sgn pl ed : Nat → Int32} {K : Nat} (hW : RW B sgn pl K) {D : Nat} {O : Int32} {lkr : Nat → PR (List Int32)} (hL : (∀ (k z : Nat) (cd : Nat → Int32), k ≤ K → z ≤ k → P0 (D + 1) 0 0 mX4_readLink (0, ent 3 [.ref 0, .int 0, .int O], [], [pO 3 [.ref 1, .ref 2, .ref 3, .ref 4, .int (nI k), .int (nI z)], pI 161 sgn, pI 161 pl, pI 160 cd, pI 3 ed]) (RQ B sgn pl ed K k z cd (lkr (ps B k))))) {k z : Nat} {cd : Nat → Int32} (hzk : z ≤ k) : ∀ (f j k1 : Nat) (x : List Int32) (cd1 : Nat → Int32), j + f = 200 → j ≤ k1 → k1 ≤ K → k + x.length ≤ k1 → Cd cd z x cd1 → pc0 (sg B) (nx B) cA.2.2 jEith lkr (ps B k) = pch (sg B) (nx B) cA.2.2 jEith lkr f x (ps B k1) → P0 (D + 2) 0 0 mX4_readChain (10, [some (.ref 0), some (.int 0), some (.int O), some (.int 1), some (.int (nI j)), none], [], [pO 3 [.ref 1, .ref 2, .ref 3, .ref 4, .int (nI k1), .int (nI (z + x.length))], pI 161 sgn, pI 161 pl, pI 160 cd1, pI 3 ed]) (RQ B sgn pl ed K k z cd (pc0 (sg B) (nx B) cA.2.2 jEith lkr (ps B k)))
  | 0, j, k1, x, cd1, hjf, hjk, hk1, _, _, _ => absurd hjf (by have := hW.1; omega)
  | f + 1, j, k1, x, cd1, hjf, hjk, hk1, hm, hC, hP => by
    have hK := hW.1
    refine P0.b GX4_readChain 3 (ob := []) (cf' := (if 160 ≤ nI j then 79 else 18, [some (.ref 0), some (.int 0), some (.int O), some (.int 1), some (.int (nI j)), none], [], [pO 3 [.ref 1, .ref 2, .ref 3, .ref 4, .int (nI k1), .int (nI (z + x.length))], pI 161 sgn, pI 161 pl, pI 160 cd1, pI 3 ed])) rfl trivial ?_
    refine P0.if (fun h1 => ?_) (fun h1 => ?_)
    · refine P0.b GX4_readChain 1 (ob := []) (cf' := (80, [some (.ref 0), some (.int 0), some (.int O), some (.int 1), some (.int (nI j)), none], [.int 1], [pO 3 [.ref 1, .ref 2, .ref 3, .ref 4, .int (nI k1), .int (nI (z + x.length))], pI 161 sgn, pI 161 pl, pI 160 cd1, pI 3 ed])) rfl trivial ?_
      exact P0.ri (by decide +kernel) rfl (by rfl) (RQ.yes (hP.trans (pch_stop (full_stop hW hk1 hjk h1 jE_ok))) hk1 rfl hm hC)
    · refine P0.b GX4_readChain 2 (ob := []) (cf' := (if (1 : Int32) = 0 then 79 else 22, [some (.ref 0), some (.int 0), some (.int O), some (.int 1), some (.int (nI j)), none], [], [pO 3 [.ref 1, .ref 2, .ref 3, .ref 4, .int (nI k1), .int (nI (z + x.length))], pI 161 sgn, pI 161 pl, pI 160 cd1, pI 3 ed])) rfl trivial ?_
      rw [if_neg (show ¬ ((1 : Int32) = 0) from by decide)]
      refine P0.b GX4_readChain 2 (ob := []) (cf' := (24, [some (.ref 0), some (.int 0), some (.int O), some (.int 1), some (.int (nI j)), none], [.ref 0, .int 0], [pO 3 [.ref 1, .ref 2, .ref 3, .ref 4, .int (nI k1), .int (nI (z + x.length))], pI 161 sgn, pI 161 pl, pI 160 cd1, pI 3 ed])) rfl trivial ?_
      refine P0.cd (d0 := 0) (as := [.ref 0]) (rest := [.int 0]) (r1 := some (.int (sg B (ps B k1)))) (h1 := [pO 3 [.ref 1, .ref 2, .ref 3, .ref 4, .int (nI k1), .int (nI (z + x.length))], pI 161 sgn, pI 161 pl, pI 160 cd1, pI 3 ed]) (st' := [.int (sg B (ps B k1)), .int 0]) GX4_sign kX4_readChain_24 rfl ⟨_, _, rfl, rfl, .inl ⟨_, _, _, _, rfl, rfl⟩⟩ (Nat.le_of_ble_eq_true rfl) (Nat.le_of_ble_eq_true rfl) (sign_n hW (k := k1) (by omega)) (Nat.zero_le _) rfl (Nat.le_of_ble_eq_true rfl) rfl ?_
      refine P0.cr (io := []) (as := [.int 0, .int (sg B (ps B k1))]) (rest := []) (hc := []) (hc1 := []) (r1 := some (.int (if jEith (sg B (ps B k1)) = true then 1 else 0))) (st' := [.int (if jEith (sg B (ps B k1)) = true then 1 else 0)]) (h' := [pO 3 [.ref 1, .ref 2, .ref 3, .ref 4, .int (nI k1), .int (nI (z + x.length))], pI 161 sgn, pI 161 pl, pI 160 cd1, pI 3 ed]) (d0 := 0) GX4_joins kX4_readChain_27 rfl rfl (Nat.le_of_ble_eq_true rfl) (Nat.le_of_ble_eq_true rfl) rfl trivial (joins_0 (sg B (ps B k1))) (Nat.le_of_ble_eq_true rfl) rfl (Nat.le_of_ble_eq_true rfl) (Nat.le_of_ble_eq_true rfl) rfl rfl ?_
      refine P0.b GX4_readChain 1 (ob := []) (cf' := (if (if jEith (sg B (ps B k1)) = true then 1 else 0) = 0 then 79 else 33, [some (.ref 0), some (.int 0), some (.int O), some (.int 1), some (.int (nI j)), none], [], [pO 3 [.ref 1, .ref 2, .ref 3, .ref 4, .int (nI k1), .int (nI (z + x.length))], pI 161 sgn, pI 161 pl, pI 160 cd1, pI 3 ed])) rfl trivial ?_
      refine P0.ifB (fun h2 => ?_) (fun h2 => ?_)
      · refine P0.b GX4_readChain 1 (ob := []) (cf' := (80, [some (.ref 0), some (.int 0), some (.int O), some (.int 1), some (.int (nI j)), none], [.int 1], [pO 3 [.ref 1, .ref 2, .ref 3, .ref 4, .int (nI k1), .int (nI (z + x.length))], pI 161 sgn, pI 161 pl, pI 160 cd1, pI 3 ed])) rfl trivial ?_
        exact P0.ri (by decide +kernel) rfl (by rfl) (RQ.yes (hP.trans (pch_stop (Bool.eq_false_iff.mpr h2))) hk1 rfl hm hC)
      · refine P0.b GX4_readChain 1 (ob := []) (cf' := (34, [some (.ref 0), some (.int 0), some (.int O), some (.int 1), some (.int (nI j)), none], [.ref 0], [pO 3 [.ref 1, .ref 2, .ref 3, .ref 4, .int (nI k1), .int (nI (z + x.length))], pI 161 sgn, pI 161 pl, pI 160 cd1, pI 3 ed])) rfl trivial ?_
        refine P0.cd (d0 := 0) (as := [.ref 0]) (rest := []) (r1 := some (.int (sg B (ps B k1)))) (h1 := [pO 3 [.ref 1, .ref 2, .ref 3, .ref 4, .int (nI k1), .int (nI (z + x.length))], pI 161 sgn, pI 161 pl, pI 160 cd1, pI 3 ed]) (st' := [.int (sg B (ps B k1))]) GX4_sign kX4_readChain_34 rfl ⟨_, _, rfl, rfl, .inl ⟨_, _, _, _, rfl, rfl⟩⟩ (Nat.le_of_ble_eq_true rfl) (Nat.le_of_ble_eq_true rfl) (sign_n hW (k := k1) (by omega)) (Nat.zero_le _) rfl (Nat.le_of_ble_eq_true rfl) rfl ?_
        refine P0.b GX4_readChain 7 (ob := []) (cf' := (49, [some (.ref 0), some (.int 0), some (.int O), some (.int 1), some (.int (nI j)), some (.int (sg B (ps B k1)))], [], [pO 3 [.ref 1, .ref 2, .ref 3, .ref 4, .int ((nI k1) + 1), .int (nI (z + x.length))], pI 161 sgn, pI 161 pl, pI 160 cd1, pI 3 ed])) rfl trivial ?_
        rw [show (nI k1) + 1 = nI (k1 + 1) from nI_add _ _]
        refine P0.b GX4_readChain 3 (ob := []) (cf' := (52, [some (.ref 0), some (.int 0), some (.int O), some (.int 1), some (.int (nI j)), some (.int (sg B (ps B k1)))], [.int O, .int 0, .ref 0], [pO 3 [.ref 1, .ref 2, .ref 3, .ref 4, .int (nI (k1 + 1)), .int (nI (z + x.length))], pI 161 sgn, pI 161 pl, pI 160 cd1, pI 3 ed])) rfl trivial ?_
        have hQh2 := hW.jn (k := k1) (by omega) jE_ok h2
        refine P0.cs (as := [.ref 0, .int 0, .int O]) (rest := []) GX4_readLink kX4_readChain_52 rfl ⟨_, _, rfl, rfl, .inl ⟨_, _, _, _, rfl, rfl⟩⟩ (Nat.le_of_ble_eq_true rfl) (Nat.le_of_ble_eq_true rfl) (hL ((k1 + 1)) ((z + x.length)) cd1 (by omega) (by omega)) (Nat.le_of_ble_eq_true rfl) (fun r h' q => q.len) ?_
        intro r h' hq
        rcases hX187 : lkr (ps B (k1 + 1)) with q187 | ⟨x187, p187⟩ <;> rw [hX187] at hq
        · obtain ⟨k187, sz187, cd187, hk187, rfl, rfl, rfl⟩ := hq
          show P0 _ _ _ _ (55, [some (.ref 0), some (.int 0), some (.int O), some (.int 1), some (.int (nI j)), some (.int (sg B (ps B k1)))], [.int 0], [pO 3 [.ref 1, .ref 2, .ref 3, .ref 4, .int (nI k187), .int sz187], pI 161 sgn, pI 161 pl, pI 160 cd187, pI 3 ed]) _
          refine P0.b GX4_readChain 1 (ob := []) (cf' := (if (0 : Int32) = 0 then 71 else 58, [some (.ref 0), some (.int 0), some (.int O), some (.int 1), some (.int (nI j)), some (.int (sg B (ps B k1)))], [], [pO 3 [.ref 1, .ref 2, .ref 3, .ref 4, .int (nI k187), .int sz187], pI 161 sgn, pI 161 pl, pI 160 cd187, pI 3 ed])) rfl trivial ?_
          rw [if_pos (show ((0 : Int32) = 0) from by decide)]
          refine P0.b GX4_readChain 4 (ob := []) (cf' := (10, [some (.ref 0), some (.int 0), some (.int O), some (.int 0), some (.int ((nI j) + 1)), some (.int (sg B (ps B k1)))], [], [pO 3 [.ref 1, .ref 2, .ref 3, .ref 4, .int (nI k187), .int sz187], pI 161 sgn, pI 161 pl, pI 160 cd187, pI 3 ed])) rfl trivial ?_
          rw [show (nI j) + 1 = nI (j + 1) from nI_add _ _]
          refine P0.b GX4_readChain 3 (ob := []) (cf' := (if 160 ≤ nI (j + 1) then 79 else 18, [some (.ref 0), some (.int 0), some (.int O), some (.int 0), some (.int (nI (j + 1))), some (.int (sg B (ps B k1)))], [], [pO 3 [.ref 1, .ref 2, .ref 3, .ref 4, .int (nI k187), .int sz187], pI 161 sgn, pI 161 pl, pI 160 cd187, pI 3 ed])) rfl trivial ?_
          refine P0.if (fun h3 => ?_) (fun h3 => ?_)
          · refine P0.b GX4_readChain 1 (ob := []) (cf' := (80, [some (.ref 0), some (.int 0), some (.int O), some (.int 0), some (.int (nI (j + 1))), some (.int (sg B (ps B k1)))], [.int 0], [pO 3 [.ref 1, .ref 2, .ref 3, .ref 4, .int (nI k187), .int sz187], pI 161 sgn, pI 161 pl, pI 160 cd187, pI 3 ed])) rfl trivial ?_
            exact P0.ri (by decide +kernel) rfl (by rfl) (RQ.no (hP.trans (pch_fail h2 hX187)) hk187)
          · refine P0.b GX4_readChain 2 (ob := []) (cf' := (if (0 : Int32) = 0 then 79 else 22, [some (.ref 0), some (.int 0), some (.int O), some (.int 0), some (.int (nI (j + 1))), some (.int (sg B (ps B k1)))], [], [pO 3 [.ref 1, .ref 2, .ref 3, .ref 4, .int (nI k187), .int sz187], pI 161 sgn, pI 161 pl, pI 160 cd187, pI 3 ed])) rfl trivial ?_
            rw [if_pos (show ((0 : Int32) = 0) from by decide)]
            refine P0.b GX4_readChain 1 (ob := []) (cf' := (80, [some (.ref 0), some (.int 0), some (.int O), some (.int 0), some (.int (nI (j + 1))), some (.int (sg B (ps B k1)))], [.int 0], [pO 3 [.ref 1, .ref 2, .ref 3, .ref 4, .int (nI k187), .int sz187], pI 161 sgn, pI 161 pl, pI 160 cd187, pI 3 ed])) rfl trivial ?_
            exact P0.ri (by decide +kernel) rfl (by rfl) (RQ.no (hP.trans (pch_fail h2 hX187)) hk187)
        · obtain ⟨k187, cd187, hk187, rfl, hm187, hC187, rfl, rfl⟩ := hq
          show P0 _ _ _ _ (55, [some (.ref 0), some (.int 0), some (.int O), some (.int 1), some (.int (nI j)), some (.int (sg B (ps B k1)))], [.int 1], [pO 3 [.ref 1, .ref 2, .ref 3, .ref 4, .int (nI k187), .int (nI ((z + x.length) + x187.length))], pI 161 sgn, pI 161 pl, pI 160 cd187, pI 3 ed]) _
          refine P0.b GX4_readChain 1 (ob := []) (cf' := (if (1 : Int32) = 0 then 71 else 58, [some (.ref 0), some (.int 0), some (.int O), some (.int 1), some (.int (nI j)), some (.int (sg B (ps B k1)))], [], [pO 3 [.ref 1, .ref 2, .ref 3, .ref 4, .int (nI k187), .int (nI ((z + x.length) + x187.length))], pI 161 sgn, pI 161 pl, pI 160 cd187, pI 3 ed])) rfl trivial ?_
          rw [if_neg (show ¬ ((1 : Int32) = 0) from by decide)]
          refine P0.b GX4_readChain 2 (ob := []) (cf' := (61, [some (.ref 0), some (.int 0), some (.int O), some (.int 1), some (.int (nI j)), some (.int (sg B (ps B k1)))], [.int (sg B (ps B k1)), .ref 0], [pO 3 [.ref 1, .ref 2, .ref 3, .ref 4, .int (nI k187), .int (nI ((z + x.length) + x187.length))], pI 161 sgn, pI 161 pl, pI 160 cd187, pI 3 ed])) rfl trivial ?_
          have hQh2 := hW.jn (k := k1) (by omega) jE_ok h2
          refine P0.cd (d0 := 1) (as := [.ref 0, .int (sg B (ps B k1))]) (rest := []) (r1 := some (.int 1)) (h1 := [pO 3 [.ref 1, .ref 2, .ref 3, .ref 4, .int (nI k187), .int (nI (((z + x.length) + x187.length) + 1))], pI 161 sgn, pI 161 pl, pI 160 (upd cd187 ((z + x.length) + x187.length) (sg B (ps B k1))), pI 3 ed]) (st' := [.int 1]) GX4_emit kX4_readChain_61 rfl ⟨_, _, rfl, rfl, .inl ⟨_, _, _, _, rfl, rfl⟩⟩ (Nat.le_of_ble_eq_true rfl) (Nat.le_of_ble_eq_true rfl) (emit_n (sg B (ps B k1)) (by omega)) ((by omega)) rfl (Nat.le_of_ble_eq_true rfl) rfl ?_
          refine P0.b GX4_readChain 1 (ob := []) (cf' := (if (1 : Int32) = 0 then 71 else 67, [some (.ref 0), some (.int 0), some (.int O), some (.int 1), some (.int (nI j)), some (.int (sg B (ps B k1)))], [], [pO 3 [.ref 1, .ref 2, .ref 3, .ref 4, .int (nI k187), .int (nI (((z + x.length) + x187.length) + 1))], pI 161 sgn, pI 161 pl, pI 160 (upd cd187 ((z + x.length) + x187.length) (sg B (ps B k1))), pI 3 ed])) rfl trivial ?_
          rw [if_neg (show ¬ ((1 : Int32) = 0) from by decide)]
          refine P0.b GX4_readChain 5 (ob := []) (cf' := (10, [some (.ref 0), some (.int 0), some (.int O), some (.int 1), some (.int ((nI j) + 1)), some (.int (sg B (ps B k1)))], [], [pO 3 [.ref 1, .ref 2, .ref 3, .ref 4, .int (nI k187), .int (nI (((z + x.length) + x187.length) + 1))], pI 161 sgn, pI 161 pl, pI 160 (upd cd187 ((z + x.length) + x187.length) (sg B (ps B k1))), pI 3 ed])) rfl trivial ?_
          rw [show (nI j) + 1 = nI (j + 1) from nI_add _ _]
          refine P0.forget (ls' := [some (.ref 0), some (.int 0), some (.int O), some (.int 1), some (.int (nI (j + 1))), none]) ⟨.inr rfl, .inr rfl, .inr rfl, .inr rfl, .inr rfl, .inl rfl, trivial⟩ ?_
          rw [ln_2 z x x187 (sg B (ps B k1))]
          exact chl_0 hW hL hzk f (j + 1) k187 (x ++ x187 ++ [sg B (ps B k1)]) _ (by omega) (by omega) hk187 (ln_2b hm hm187) (Cd.bin hC hC187 _) (hP.trans (pch_step h2 hX187))
theorem chain_0 {B sgn pl ed : Nat → Int32} {K : Nat} (hW : RW B sgn pl K) {D : Nat} {O : Int32} {lkr : Nat → PR (List Int32)} (hL : (∀ (k z : Nat) (cd : Nat → Int32), k ≤ K → z ≤ k → P0 (D + 1) 0 0 mX4_readLink (0, ent 3 [.ref 0, .int 0, .int O], [], [pO 3 [.ref 1, .ref 2, .ref 3, .ref 4, .int (nI k), .int (nI z)], pI 161 sgn, pI 161 pl, pI 160 cd, pI 3 ed]) (RQ B sgn pl ed K k z cd (lkr (ps B k))))) : (∀ (k z : Nat) (cd : Nat → Int32), k ≤ K → z ≤ k → P0 (D + 2) 0 0 mX4_readChain (0, ent 6 [.ref 0, .int 0, .int O], [], [pO 3 [.ref 1, .ref 2, .ref 3, .ref 4, .int (nI k), .int (nI z)], pI 161 sgn, pI 161 pl, pI 160 cd, pI 3 ed]) (RQ B sgn pl ed K k z cd ((pc0 (sg B) (nx B) cA.2.2 jEith lkr) (ps B k)))) := by
  intro k z cd hk hzk
  have hK := hW.1
  refine P0.b GX4_readChain 3 (ob := []) (cf' := (3, [some (.ref 0), some (.int 0), some (.int O), none, none, none], [.int O, .int 0, .ref 0], [pO 3 [.ref 1, .ref 2, .ref 3, .ref 4, .int (nI k), .int (nI z)], pI 161 sgn, pI 161 pl, pI 160 cd, pI 3 ed])) rfl trivial ?_
  refine P0.cs (as := [.ref 0, .int 0, .int O]) (rest := []) GX4_readLink kX4_readChain_3 rfl ⟨_, _, rfl, rfl, .inl ⟨_, _, _, _, rfl, rfl⟩⟩ (Nat.le_of_ble_eq_true rfl) (Nat.le_of_ble_eq_true rfl) (hL (k) (z) cd (by omega) (by omega)) (Nat.le_of_ble_eq_true rfl) (fun r h' q => q.len) ?_
  intro r h' hq
  rcases hX188 : lkr (ps B k) with q188 | ⟨x188, p188⟩ <;> rw [hX188] at hq
  · obtain ⟨k188, sz188, cd188, hk188, rfl, rfl, rfl⟩ := hq
    show P0 _ _ _ _ (6, [some (.ref 0), some (.int 0), some (.int O), none, none, none], [.int 0], [pO 3 [.ref 1, .ref 2, .ref 3, .ref 4, .int (nI k188), .int sz188], pI 161 sgn, pI 161 pl, pI 160 cd188, pI 3 ed]) _
    refine P0.b GX4_readChain 3 (ob := []) (cf' := (10, [some (.ref 0), some (.int 0), some (.int O), some (.int 0), some (.int 0), none], [], [pO 3 [.ref 1, .ref 2, .ref 3, .ref 4, .int (nI k188), .int sz188], pI 161 sgn, pI 161 pl, pI 160 cd188, pI 3 ed])) rfl trivial ?_
    refine P0.b GX4_readChain 3 (ob := []) (cf' := (if (160 : Int32) ≤ 0 then 79 else 18, [some (.ref 0), some (.int 0), some (.int O), some (.int 0), some (.int 0), none], [], [pO 3 [.ref 1, .ref 2, .ref 3, .ref 4, .int (nI k188), .int sz188], pI 161 sgn, pI 161 pl, pI 160 cd188, pI 3 ed])) rfl trivial ?_
    rw [if_neg (show ¬ ((160 : Int32) ≤ 0) from by decide)]
    refine P0.b GX4_readChain 2 (ob := []) (cf' := (if (0 : Int32) = 0 then 79 else 22, [some (.ref 0), some (.int 0), some (.int O), some (.int 0), some (.int 0), none], [], [pO 3 [.ref 1, .ref 2, .ref 3, .ref 4, .int (nI k188), .int sz188], pI 161 sgn, pI 161 pl, pI 160 cd188, pI 3 ed])) rfl trivial ?_
    rw [if_pos (show ((0 : Int32) = 0) from by decide)]
    refine P0.b GX4_readChain 1 (ob := []) (cf' := (80, [some (.ref 0), some (.int 0), some (.int O), some (.int 0), some (.int 0), none], [.int 0], [pO 3 [.ref 1, .ref 2, .ref 3, .ref 4, .int (nI k188), .int sz188], pI 161 sgn, pI 161 pl, pI 160 cd188, pI 3 ed])) rfl trivial ?_
    exact P0.ri (by decide +kernel) rfl (by rfl) (RQ.no (pc0_no hX188) hk188)
  · obtain ⟨k188, cd188, hk188, rfl, hm188, hC188, rfl, rfl⟩ := hq
    show P0 _ _ _ _ (6, [some (.ref 0), some (.int 0), some (.int O), none, none, none], [.int 1], [pO 3 [.ref 1, .ref 2, .ref 3, .ref 4, .int (nI k188), .int (nI (z + x188.length))], pI 161 sgn, pI 161 pl, pI 160 cd188, pI 3 ed]) _
    refine P0.b GX4_readChain 3 (ob := []) (cf' := (10, [some (.ref 0), some (.int 0), some (.int O), some (.int 1), some (.int 0), none], [], [pO 3 [.ref 1, .ref 2, .ref 3, .ref 4, .int (nI k188), .int (nI (z + x188.length))], pI 161 sgn, pI 161 pl, pI 160 cd188, pI 3 ed])) rfl trivial ?_
    exact chl_0 hW hL hzk 200 0 k188 x188 cd188 (by omega) (by omega) hk188 hm188 hC188 (pc0_yes hX188)
theorem chl_1 {B sgn pl ed : Nat → Int32} {K : Nat} (hW : RW B sgn pl K) {D : Nat} {O : Int32} {lkr : Nat → PR (List Int32)} (hL : (∀ (k z : Nat) (cd : Nat → Int32), k ≤ K → z ≤ k → P0 (D + 1) 0 0 mX4_readLink (0, ent 3 [.ref 0, .int 1, .int O], [], [pO 3 [.ref 1, .ref 2, .ref 3, .ref 4, .int (nI k), .int (nI z)], pI 161 sgn, pI 161 pl, pI 160 cd, pI 3 ed]) (RQ B sgn pl ed K k z cd (lkr (ps B k))))) {k z : Nat} {cd : Nat → Int32} (hzk : z ≤ k) : ∀ (f j k1 : Nat) (x : List Int32) (cd1 : Nat → Int32), j + f = 200 → j ≤ k1 → k1 ≤ K → k + x.length ≤ k1 → Cd cd z x cd1 → pc0 (sg B) (nx B) cA.2.2 jBoth lkr (ps B k) = pch (sg B) (nx B) cA.2.2 jBoth lkr f x (ps B k1) → P0 (D + 2) 0 0 mX4_readChain (10, [some (.ref 0), some (.int 1), some (.int O), some (.int 1), some (.int (nI j)), none], [], [pO 3 [.ref 1, .ref 2, .ref 3, .ref 4, .int (nI k1), .int (nI (z + x.length))], pI 161 sgn, pI 161 pl, pI 160 cd1, pI 3 ed]) (RQ B sgn pl ed K k z cd (pc0 (sg B) (nx B) cA.2.2 jBoth lkr (ps B k)))
  | 0, j, k1, x, cd1, hjf, hjk, hk1, _, _, _ => absurd hjf (by have := hW.1; omega)
  | f + 1, j, k1, x, cd1, hjf, hjk, hk1, hm, hC, hP => by
    have hK := hW.1
    refine P0.b GX4_readChain 3 (ob := []) (cf' := (if 160 ≤ nI j then 79 else 18, [some (.ref 0), some (.int 1), some (.int O), some (.int 1), some (.int (nI j)), none], [], [pO 3 [.ref 1, .ref 2, .ref 3, .ref 4, .int (nI k1), .int (nI (z + x.length))], pI 161 sgn, pI 161 pl, pI 160 cd1, pI 3 ed])) rfl trivial ?_
    refine P0.if (fun h1 => ?_) (fun h1 => ?_)
    · refine P0.b GX4_readChain 1 (ob := []) (cf' := (80, [some (.ref 0), some (.int 1), some (.int O), some (.int 1), some (.int (nI j)), none], [.int 1], [pO 3 [.ref 1, .ref 2, .ref 3, .ref 4, .int (nI k1), .int (nI (z + x.length))], pI 161 sgn, pI 161 pl, pI 160 cd1, pI 3 ed])) rfl trivial ?_
      exact P0.ri (by decide +kernel) rfl (by rfl) (RQ.yes (hP.trans (pch_stop (full_stop hW hk1 hjk h1 jB_ok))) hk1 rfl hm hC)
    · refine P0.b GX4_readChain 2 (ob := []) (cf' := (if (1 : Int32) = 0 then 79 else 22, [some (.ref 0), some (.int 1), some (.int O), some (.int 1), some (.int (nI j)), none], [], [pO 3 [.ref 1, .ref 2, .ref 3, .ref 4, .int (nI k1), .int (nI (z + x.length))], pI 161 sgn, pI 161 pl, pI 160 cd1, pI 3 ed])) rfl trivial ?_
      rw [if_neg (show ¬ ((1 : Int32) = 0) from by decide)]
      refine P0.b GX4_readChain 2 (ob := []) (cf' := (24, [some (.ref 0), some (.int 1), some (.int O), some (.int 1), some (.int (nI j)), none], [.ref 0, .int 1], [pO 3 [.ref 1, .ref 2, .ref 3, .ref 4, .int (nI k1), .int (nI (z + x.length))], pI 161 sgn, pI 161 pl, pI 160 cd1, pI 3 ed])) rfl trivial ?_
      refine P0.cd (d0 := 0) (as := [.ref 0]) (rest := [.int 1]) (r1 := some (.int (sg B (ps B k1)))) (h1 := [pO 3 [.ref 1, .ref 2, .ref 3, .ref 4, .int (nI k1), .int (nI (z + x.length))], pI 161 sgn, pI 161 pl, pI 160 cd1, pI 3 ed]) (st' := [.int (sg B (ps B k1)), .int 1]) GX4_sign kX4_readChain_24 rfl ⟨_, _, rfl, rfl, .inl ⟨_, _, _, _, rfl, rfl⟩⟩ (Nat.le_of_ble_eq_true rfl) (Nat.le_of_ble_eq_true rfl) (sign_n hW (k := k1) (by omega)) (Nat.zero_le _) rfl (Nat.le_of_ble_eq_true rfl) rfl ?_
      refine P0.cr (io := []) (as := [.int 1, .int (sg B (ps B k1))]) (rest := []) (hc := []) (hc1 := []) (r1 := some (.int (if jBoth (sg B (ps B k1)) = true then 1 else 0))) (st' := [.int (if jBoth (sg B (ps B k1)) = true then 1 else 0)]) (h' := [pO 3 [.ref 1, .ref 2, .ref 3, .ref 4, .int (nI k1), .int (nI (z + x.length))], pI 161 sgn, pI 161 pl, pI 160 cd1, pI 3 ed]) (d0 := 0) GX4_joins kX4_readChain_27 rfl rfl (Nat.le_of_ble_eq_true rfl) (Nat.le_of_ble_eq_true rfl) rfl trivial (joins_1 (sg B (ps B k1))) (Nat.le_of_ble_eq_true rfl) rfl (Nat.le_of_ble_eq_true rfl) (Nat.le_of_ble_eq_true rfl) rfl rfl ?_
      refine P0.b GX4_readChain 1 (ob := []) (cf' := (if (if jBoth (sg B (ps B k1)) = true then 1 else 0) = 0 then 79 else 33, [some (.ref 0), some (.int 1), some (.int O), some (.int 1), some (.int (nI j)), none], [], [pO 3 [.ref 1, .ref 2, .ref 3, .ref 4, .int (nI k1), .int (nI (z + x.length))], pI 161 sgn, pI 161 pl, pI 160 cd1, pI 3 ed])) rfl trivial ?_
      refine P0.ifB (fun h2 => ?_) (fun h2 => ?_)
      · refine P0.b GX4_readChain 1 (ob := []) (cf' := (80, [some (.ref 0), some (.int 1), some (.int O), some (.int 1), some (.int (nI j)), none], [.int 1], [pO 3 [.ref 1, .ref 2, .ref 3, .ref 4, .int (nI k1), .int (nI (z + x.length))], pI 161 sgn, pI 161 pl, pI 160 cd1, pI 3 ed])) rfl trivial ?_
        exact P0.ri (by decide +kernel) rfl (by rfl) (RQ.yes (hP.trans (pch_stop (Bool.eq_false_iff.mpr h2))) hk1 rfl hm hC)
      · refine P0.b GX4_readChain 1 (ob := []) (cf' := (34, [some (.ref 0), some (.int 1), some (.int O), some (.int 1), some (.int (nI j)), none], [.ref 0], [pO 3 [.ref 1, .ref 2, .ref 3, .ref 4, .int (nI k1), .int (nI (z + x.length))], pI 161 sgn, pI 161 pl, pI 160 cd1, pI 3 ed])) rfl trivial ?_
        refine P0.cd (d0 := 0) (as := [.ref 0]) (rest := []) (r1 := some (.int (sg B (ps B k1)))) (h1 := [pO 3 [.ref 1, .ref 2, .ref 3, .ref 4, .int (nI k1), .int (nI (z + x.length))], pI 161 sgn, pI 161 pl, pI 160 cd1, pI 3 ed]) (st' := [.int (sg B (ps B k1))]) GX4_sign kX4_readChain_34 rfl ⟨_, _, rfl, rfl, .inl ⟨_, _, _, _, rfl, rfl⟩⟩ (Nat.le_of_ble_eq_true rfl) (Nat.le_of_ble_eq_true rfl) (sign_n hW (k := k1) (by omega)) (Nat.zero_le _) rfl (Nat.le_of_ble_eq_true rfl) rfl ?_
        refine P0.b GX4_readChain 7 (ob := []) (cf' := (49, [some (.ref 0), some (.int 1), some (.int O), some (.int 1), some (.int (nI j)), some (.int (sg B (ps B k1)))], [], [pO 3 [.ref 1, .ref 2, .ref 3, .ref 4, .int ((nI k1) + 1), .int (nI (z + x.length))], pI 161 sgn, pI 161 pl, pI 160 cd1, pI 3 ed])) rfl trivial ?_
        rw [show (nI k1) + 1 = nI (k1 + 1) from nI_add _ _]
        refine P0.b GX4_readChain 3 (ob := []) (cf' := (52, [some (.ref 0), some (.int 1), some (.int O), some (.int 1), some (.int (nI j)), some (.int (sg B (ps B k1)))], [.int O, .int 1, .ref 0], [pO 3 [.ref 1, .ref 2, .ref 3, .ref 4, .int (nI (k1 + 1)), .int (nI (z + x.length))], pI 161 sgn, pI 161 pl, pI 160 cd1, pI 3 ed])) rfl trivial ?_
        have hQh2 := hW.jn (k := k1) (by omega) jB_ok h2
        refine P0.cs (as := [.ref 0, .int 1, .int O]) (rest := []) GX4_readLink kX4_readChain_52 rfl ⟨_, _, rfl, rfl, .inl ⟨_, _, _, _, rfl, rfl⟩⟩ (Nat.le_of_ble_eq_true rfl) (Nat.le_of_ble_eq_true rfl) (hL ((k1 + 1)) ((z + x.length)) cd1 (by omega) (by omega)) (Nat.le_of_ble_eq_true rfl) (fun r h' q => q.len) ?_
        intro r h' hq
        rcases hX189 : lkr (ps B (k1 + 1)) with q189 | ⟨x189, p189⟩ <;> rw [hX189] at hq
        · obtain ⟨k189, sz189, cd189, hk189, rfl, rfl, rfl⟩ := hq
          show P0 _ _ _ _ (55, [some (.ref 0), some (.int 1), some (.int O), some (.int 1), some (.int (nI j)), some (.int (sg B (ps B k1)))], [.int 0], [pO 3 [.ref 1, .ref 2, .ref 3, .ref 4, .int (nI k189), .int sz189], pI 161 sgn, pI 161 pl, pI 160 cd189, pI 3 ed]) _
          refine P0.b GX4_readChain 1 (ob := []) (cf' := (if (0 : Int32) = 0 then 71 else 58, [some (.ref 0), some (.int 1), some (.int O), some (.int 1), some (.int (nI j)), some (.int (sg B (ps B k1)))], [], [pO 3 [.ref 1, .ref 2, .ref 3, .ref 4, .int (nI k189), .int sz189], pI 161 sgn, pI 161 pl, pI 160 cd189, pI 3 ed])) rfl trivial ?_
          rw [if_pos (show ((0 : Int32) = 0) from by decide)]
          refine P0.b GX4_readChain 4 (ob := []) (cf' := (10, [some (.ref 0), some (.int 1), some (.int O), some (.int 0), some (.int ((nI j) + 1)), some (.int (sg B (ps B k1)))], [], [pO 3 [.ref 1, .ref 2, .ref 3, .ref 4, .int (nI k189), .int sz189], pI 161 sgn, pI 161 pl, pI 160 cd189, pI 3 ed])) rfl trivial ?_
          rw [show (nI j) + 1 = nI (j + 1) from nI_add _ _]
          refine P0.b GX4_readChain 3 (ob := []) (cf' := (if 160 ≤ nI (j + 1) then 79 else 18, [some (.ref 0), some (.int 1), some (.int O), some (.int 0), some (.int (nI (j + 1))), some (.int (sg B (ps B k1)))], [], [pO 3 [.ref 1, .ref 2, .ref 3, .ref 4, .int (nI k189), .int sz189], pI 161 sgn, pI 161 pl, pI 160 cd189, pI 3 ed])) rfl trivial ?_
          refine P0.if (fun h3 => ?_) (fun h3 => ?_)
          · refine P0.b GX4_readChain 1 (ob := []) (cf' := (80, [some (.ref 0), some (.int 1), some (.int O), some (.int 0), some (.int (nI (j + 1))), some (.int (sg B (ps B k1)))], [.int 0], [pO 3 [.ref 1, .ref 2, .ref 3, .ref 4, .int (nI k189), .int sz189], pI 161 sgn, pI 161 pl, pI 160 cd189, pI 3 ed])) rfl trivial ?_
            exact P0.ri (by decide +kernel) rfl (by rfl) (RQ.no (hP.trans (pch_fail h2 hX189)) hk189)
          · refine P0.b GX4_readChain 2 (ob := []) (cf' := (if (0 : Int32) = 0 then 79 else 22, [some (.ref 0), some (.int 1), some (.int O), some (.int 0), some (.int (nI (j + 1))), some (.int (sg B (ps B k1)))], [], [pO 3 [.ref 1, .ref 2, .ref 3, .ref 4, .int (nI k189), .int sz189], pI 161 sgn, pI 161 pl, pI 160 cd189, pI 3 ed])) rfl trivial ?_
            rw [if_pos (show ((0 : Int32) = 0) from by decide)]
            refine P0.b GX4_readChain 1 (ob := []) (cf' := (80, [some (.ref 0), some (.int 1), some (.int O), some (.int 0), some (.int (nI (j + 1))), some (.int (sg B (ps B k1)))], [.int 0], [pO 3 [.ref 1, .ref 2, .ref 3, .ref 4, .int (nI k189), .int sz189], pI 161 sgn, pI 161 pl, pI 160 cd189, pI 3 ed])) rfl trivial ?_
            exact P0.ri (by decide +kernel) rfl (by rfl) (RQ.no (hP.trans (pch_fail h2 hX189)) hk189)
        · obtain ⟨k189, cd189, hk189, rfl, hm189, hC189, rfl, rfl⟩ := hq
          show P0 _ _ _ _ (55, [some (.ref 0), some (.int 1), some (.int O), some (.int 1), some (.int (nI j)), some (.int (sg B (ps B k1)))], [.int 1], [pO 3 [.ref 1, .ref 2, .ref 3, .ref 4, .int (nI k189), .int (nI ((z + x.length) + x189.length))], pI 161 sgn, pI 161 pl, pI 160 cd189, pI 3 ed]) _
          refine P0.b GX4_readChain 1 (ob := []) (cf' := (if (1 : Int32) = 0 then 71 else 58, [some (.ref 0), some (.int 1), some (.int O), some (.int 1), some (.int (nI j)), some (.int (sg B (ps B k1)))], [], [pO 3 [.ref 1, .ref 2, .ref 3, .ref 4, .int (nI k189), .int (nI ((z + x.length) + x189.length))], pI 161 sgn, pI 161 pl, pI 160 cd189, pI 3 ed])) rfl trivial ?_
          rw [if_neg (show ¬ ((1 : Int32) = 0) from by decide)]
          refine P0.b GX4_readChain 2 (ob := []) (cf' := (61, [some (.ref 0), some (.int 1), some (.int O), some (.int 1), some (.int (nI j)), some (.int (sg B (ps B k1)))], [.int (sg B (ps B k1)), .ref 0], [pO 3 [.ref 1, .ref 2, .ref 3, .ref 4, .int (nI k189), .int (nI ((z + x.length) + x189.length))], pI 161 sgn, pI 161 pl, pI 160 cd189, pI 3 ed])) rfl trivial ?_
          have hQh2 := hW.jn (k := k1) (by omega) jB_ok h2
          refine P0.cd (d0 := 1) (as := [.ref 0, .int (sg B (ps B k1))]) (rest := []) (r1 := some (.int 1)) (h1 := [pO 3 [.ref 1, .ref 2, .ref 3, .ref 4, .int (nI k189), .int (nI (((z + x.length) + x189.length) + 1))], pI 161 sgn, pI 161 pl, pI 160 (upd cd189 ((z + x.length) + x189.length) (sg B (ps B k1))), pI 3 ed]) (st' := [.int 1]) GX4_emit kX4_readChain_61 rfl ⟨_, _, rfl, rfl, .inl ⟨_, _, _, _, rfl, rfl⟩⟩ (Nat.le_of_ble_eq_true rfl) (Nat.le_of_ble_eq_true rfl) (emit_n (sg B (ps B k1)) (by omega)) ((by omega)) rfl (Nat.le_of_ble_eq_true rfl) rfl ?_
          refine P0.b GX4_readChain 1 (ob := []) (cf' := (if (1 : Int32) = 0 then 71 else 67, [some (.ref 0), some (.int 1), some (.int O), some (.int 1), some (.int (nI j)), some (.int (sg B (ps B k1)))], [], [pO 3 [.ref 1, .ref 2, .ref 3, .ref 4, .int (nI k189), .int (nI (((z + x.length) + x189.length) + 1))], pI 161 sgn, pI 161 pl, pI 160 (upd cd189 ((z + x.length) + x189.length) (sg B (ps B k1))), pI 3 ed])) rfl trivial ?_
          rw [if_neg (show ¬ ((1 : Int32) = 0) from by decide)]
          refine P0.b GX4_readChain 5 (ob := []) (cf' := (10, [some (.ref 0), some (.int 1), some (.int O), some (.int 1), some (.int ((nI j) + 1)), some (.int (sg B (ps B k1)))], [], [pO 3 [.ref 1, .ref 2, .ref 3, .ref 4, .int (nI k189), .int (nI (((z + x.length) + x189.length) + 1))], pI 161 sgn, pI 161 pl, pI 160 (upd cd189 ((z + x.length) + x189.length) (sg B (ps B k1))), pI 3 ed])) rfl trivial ?_
          rw [show (nI j) + 1 = nI (j + 1) from nI_add _ _]
          refine P0.forget (ls' := [some (.ref 0), some (.int 1), some (.int O), some (.int 1), some (.int (nI (j + 1))), none]) ⟨.inr rfl, .inr rfl, .inr rfl, .inr rfl, .inr rfl, .inl rfl, trivial⟩ ?_
          rw [ln_2 z x x189 (sg B (ps B k1))]
          exact chl_1 hW hL hzk f (j + 1) k189 (x ++ x189 ++ [sg B (ps B k1)]) _ (by omega) (by omega) hk189 (ln_2b hm hm189) (Cd.bin hC hC189 _) (hP.trans (pch_step h2 hX189))
theorem chain_1 {B sgn pl ed : Nat → Int32} {K : Nat} (hW : RW B sgn pl K) {D : Nat} {O : Int32} {lkr : Nat → PR (List Int32)} (hL : (∀ (k z : Nat) (cd : Nat → Int32), k ≤ K → z ≤ k → P0 (D + 1) 0 0 mX4_readLink (0, ent 3 [.ref 0, .int 1, .int O], [], [pO 3 [.ref 1, .ref 2, .ref 3, .ref 4, .int (nI k), .int (nI z)], pI 161 sgn, pI 161 pl, pI 160 cd, pI 3 ed]) (RQ B sgn pl ed K k z cd (lkr (ps B k))))) : (∀ (k z : Nat) (cd : Nat → Int32), k ≤ K → z ≤ k → P0 (D + 2) 0 0 mX4_readChain (0, ent 6 [.ref 0, .int 1, .int O], [], [pO 3 [.ref 1, .ref 2, .ref 3, .ref 4, .int (nI k), .int (nI z)], pI 161 sgn, pI 161 pl, pI 160 cd, pI 3 ed]) (RQ B sgn pl ed K k z cd ((pc0 (sg B) (nx B) cA.2.2 jBoth lkr) (ps B k)))) := by
  intro k z cd hk hzk
  have hK := hW.1
  refine P0.b GX4_readChain 3 (ob := []) (cf' := (3, [some (.ref 0), some (.int 1), some (.int O), none, none, none], [.int O, .int 1, .ref 0], [pO 3 [.ref 1, .ref 2, .ref 3, .ref 4, .int (nI k), .int (nI z)], pI 161 sgn, pI 161 pl, pI 160 cd, pI 3 ed])) rfl trivial ?_
  refine P0.cs (as := [.ref 0, .int 1, .int O]) (rest := []) GX4_readLink kX4_readChain_3 rfl ⟨_, _, rfl, rfl, .inl ⟨_, _, _, _, rfl, rfl⟩⟩ (Nat.le_of_ble_eq_true rfl) (Nat.le_of_ble_eq_true rfl) (hL (k) (z) cd (by omega) (by omega)) (Nat.le_of_ble_eq_true rfl) (fun r h' q => q.len) ?_
  intro r h' hq
  rcases hX190 : lkr (ps B k) with q190 | ⟨x190, p190⟩ <;> rw [hX190] at hq
  · obtain ⟨k190, sz190, cd190, hk190, rfl, rfl, rfl⟩ := hq
    show P0 _ _ _ _ (6, [some (.ref 0), some (.int 1), some (.int O), none, none, none], [.int 0], [pO 3 [.ref 1, .ref 2, .ref 3, .ref 4, .int (nI k190), .int sz190], pI 161 sgn, pI 161 pl, pI 160 cd190, pI 3 ed]) _
    refine P0.b GX4_readChain 3 (ob := []) (cf' := (10, [some (.ref 0), some (.int 1), some (.int O), some (.int 0), some (.int 0), none], [], [pO 3 [.ref 1, .ref 2, .ref 3, .ref 4, .int (nI k190), .int sz190], pI 161 sgn, pI 161 pl, pI 160 cd190, pI 3 ed])) rfl trivial ?_
    refine P0.b GX4_readChain 3 (ob := []) (cf' := (if (160 : Int32) ≤ 0 then 79 else 18, [some (.ref 0), some (.int 1), some (.int O), some (.int 0), some (.int 0), none], [], [pO 3 [.ref 1, .ref 2, .ref 3, .ref 4, .int (nI k190), .int sz190], pI 161 sgn, pI 161 pl, pI 160 cd190, pI 3 ed])) rfl trivial ?_
    rw [if_neg (show ¬ ((160 : Int32) ≤ 0) from by decide)]
    refine P0.b GX4_readChain 2 (ob := []) (cf' := (if (0 : Int32) = 0 then 79 else 22, [some (.ref 0), some (.int 1), some (.int O), some (.int 0), some (.int 0), none], [], [pO 3 [.ref 1, .ref 2, .ref 3, .ref 4, .int (nI k190), .int sz190], pI 161 sgn, pI 161 pl, pI 160 cd190, pI 3 ed])) rfl trivial ?_
    rw [if_pos (show ((0 : Int32) = 0) from by decide)]
    refine P0.b GX4_readChain 1 (ob := []) (cf' := (80, [some (.ref 0), some (.int 1), some (.int O), some (.int 0), some (.int 0), none], [.int 0], [pO 3 [.ref 1, .ref 2, .ref 3, .ref 4, .int (nI k190), .int sz190], pI 161 sgn, pI 161 pl, pI 160 cd190, pI 3 ed])) rfl trivial ?_
    exact P0.ri (by decide +kernel) rfl (by rfl) (RQ.no (pc0_no hX190) hk190)
  · obtain ⟨k190, cd190, hk190, rfl, hm190, hC190, rfl, rfl⟩ := hq
    show P0 _ _ _ _ (6, [some (.ref 0), some (.int 1), some (.int O), none, none, none], [.int 1], [pO 3 [.ref 1, .ref 2, .ref 3, .ref 4, .int (nI k190), .int (nI (z + x190.length))], pI 161 sgn, pI 161 pl, pI 160 cd190, pI 3 ed]) _
    refine P0.b GX4_readChain 3 (ob := []) (cf' := (10, [some (.ref 0), some (.int 1), some (.int O), some (.int 1), some (.int 0), none], [], [pO 3 [.ref 1, .ref 2, .ref 3, .ref 4, .int (nI k190), .int (nI (z + x190.length))], pI 161 sgn, pI 161 pl, pI 160 cd190, pI 3 ed])) rfl trivial ?_
    exact chl_1 hW hL hzk 200 0 k190 x190 cd190 (by omega) (by omega) hk190 hm190 hC190 (pc0_yes hX190)
theorem chl_2 {B sgn pl ed : Nat → Int32} {K : Nat} (hW : RW B sgn pl K) {D : Nat} {O : Int32} {lkr : Nat → PR (List Int32)} (hL : (∀ (k z : Nat) (cd : Nat → Int32), k ≤ K → z ≤ k → P0 (D + 1) 0 0 mX4_readLink (0, ent 3 [.ref 0, .int 2, .int O], [], [pO 3 [.ref 1, .ref 2, .ref 3, .ref 4, .int (nI k), .int (nI z)], pI 161 sgn, pI 161 pl, pI 160 cd, pI 3 ed]) (RQ B sgn pl ed K k z cd (lkr (ps B k))))) {k z : Nat} {cd : Nat → Int32} (hzk : z ≤ k) : ∀ (f j k1 : Nat) (x : List Int32) (cd1 : Nat → Int32), j + f = 200 → j ≤ k1 → k1 ≤ K → k + x.length ≤ k1 → Cd cd z x cd1 → pc0 (sg B) (nx B) cA.2.2 jSum lkr (ps B k) = pch (sg B) (nx B) cA.2.2 jSum lkr f x (ps B k1) → P0 (D + 2) 0 0 mX4_readChain (10, [some (.ref 0), some (.int 2), some (.int O), some (.int 1), some (.int (nI j)), none], [], [pO 3 [.ref 1, .ref 2, .ref 3, .ref 4, .int (nI k1), .int (nI (z + x.length))], pI 161 sgn, pI 161 pl, pI 160 cd1, pI 3 ed]) (RQ B sgn pl ed K k z cd (pc0 (sg B) (nx B) cA.2.2 jSum lkr (ps B k)))
  | 0, j, k1, x, cd1, hjf, hjk, hk1, _, _, _ => absurd hjf (by have := hW.1; omega)
  | f + 1, j, k1, x, cd1, hjf, hjk, hk1, hm, hC, hP => by
    have hK := hW.1
    refine P0.b GX4_readChain 3 (ob := []) (cf' := (if 160 ≤ nI j then 79 else 18, [some (.ref 0), some (.int 2), some (.int O), some (.int 1), some (.int (nI j)), none], [], [pO 3 [.ref 1, .ref 2, .ref 3, .ref 4, .int (nI k1), .int (nI (z + x.length))], pI 161 sgn, pI 161 pl, pI 160 cd1, pI 3 ed])) rfl trivial ?_
    refine P0.if (fun h1 => ?_) (fun h1 => ?_)
    · refine P0.b GX4_readChain 1 (ob := []) (cf' := (80, [some (.ref 0), some (.int 2), some (.int O), some (.int 1), some (.int (nI j)), none], [.int 1], [pO 3 [.ref 1, .ref 2, .ref 3, .ref 4, .int (nI k1), .int (nI (z + x.length))], pI 161 sgn, pI 161 pl, pI 160 cd1, pI 3 ed])) rfl trivial ?_
      exact P0.ri (by decide +kernel) rfl (by rfl) (RQ.yes (hP.trans (pch_stop (full_stop hW hk1 hjk h1 jS_ok))) hk1 rfl hm hC)
    · refine P0.b GX4_readChain 2 (ob := []) (cf' := (if (1 : Int32) = 0 then 79 else 22, [some (.ref 0), some (.int 2), some (.int O), some (.int 1), some (.int (nI j)), none], [], [pO 3 [.ref 1, .ref 2, .ref 3, .ref 4, .int (nI k1), .int (nI (z + x.length))], pI 161 sgn, pI 161 pl, pI 160 cd1, pI 3 ed])) rfl trivial ?_
      rw [if_neg (show ¬ ((1 : Int32) = 0) from by decide)]
      refine P0.b GX4_readChain 2 (ob := []) (cf' := (24, [some (.ref 0), some (.int 2), some (.int O), some (.int 1), some (.int (nI j)), none], [.ref 0, .int 2], [pO 3 [.ref 1, .ref 2, .ref 3, .ref 4, .int (nI k1), .int (nI (z + x.length))], pI 161 sgn, pI 161 pl, pI 160 cd1, pI 3 ed])) rfl trivial ?_
      refine P0.cd (d0 := 0) (as := [.ref 0]) (rest := [.int 2]) (r1 := some (.int (sg B (ps B k1)))) (h1 := [pO 3 [.ref 1, .ref 2, .ref 3, .ref 4, .int (nI k1), .int (nI (z + x.length))], pI 161 sgn, pI 161 pl, pI 160 cd1, pI 3 ed]) (st' := [.int (sg B (ps B k1)), .int 2]) GX4_sign kX4_readChain_24 rfl ⟨_, _, rfl, rfl, .inl ⟨_, _, _, _, rfl, rfl⟩⟩ (Nat.le_of_ble_eq_true rfl) (Nat.le_of_ble_eq_true rfl) (sign_n hW (k := k1) (by omega)) (Nat.zero_le _) rfl (Nat.le_of_ble_eq_true rfl) rfl ?_
      refine P0.cr (io := []) (as := [.int 2, .int (sg B (ps B k1))]) (rest := []) (hc := []) (hc1 := []) (r1 := some (.int (if jSum (sg B (ps B k1)) = true then 1 else 0))) (st' := [.int (if jSum (sg B (ps B k1)) = true then 1 else 0)]) (h' := [pO 3 [.ref 1, .ref 2, .ref 3, .ref 4, .int (nI k1), .int (nI (z + x.length))], pI 161 sgn, pI 161 pl, pI 160 cd1, pI 3 ed]) (d0 := 0) GX4_joins kX4_readChain_27 rfl rfl (Nat.le_of_ble_eq_true rfl) (Nat.le_of_ble_eq_true rfl) rfl trivial (joins_2 (sg B (ps B k1))) (Nat.le_of_ble_eq_true rfl) rfl (Nat.le_of_ble_eq_true rfl) (Nat.le_of_ble_eq_true rfl) rfl rfl ?_
      refine P0.b GX4_readChain 1 (ob := []) (cf' := (if (if jSum (sg B (ps B k1)) = true then 1 else 0) = 0 then 79 else 33, [some (.ref 0), some (.int 2), some (.int O), some (.int 1), some (.int (nI j)), none], [], [pO 3 [.ref 1, .ref 2, .ref 3, .ref 4, .int (nI k1), .int (nI (z + x.length))], pI 161 sgn, pI 161 pl, pI 160 cd1, pI 3 ed])) rfl trivial ?_
      refine P0.ifB (fun h2 => ?_) (fun h2 => ?_)
      · refine P0.b GX4_readChain 1 (ob := []) (cf' := (80, [some (.ref 0), some (.int 2), some (.int O), some (.int 1), some (.int (nI j)), none], [.int 1], [pO 3 [.ref 1, .ref 2, .ref 3, .ref 4, .int (nI k1), .int (nI (z + x.length))], pI 161 sgn, pI 161 pl, pI 160 cd1, pI 3 ed])) rfl trivial ?_
        exact P0.ri (by decide +kernel) rfl (by rfl) (RQ.yes (hP.trans (pch_stop (Bool.eq_false_iff.mpr h2))) hk1 rfl hm hC)
      · refine P0.b GX4_readChain 1 (ob := []) (cf' := (34, [some (.ref 0), some (.int 2), some (.int O), some (.int 1), some (.int (nI j)), none], [.ref 0], [pO 3 [.ref 1, .ref 2, .ref 3, .ref 4, .int (nI k1), .int (nI (z + x.length))], pI 161 sgn, pI 161 pl, pI 160 cd1, pI 3 ed])) rfl trivial ?_
        refine P0.cd (d0 := 0) (as := [.ref 0]) (rest := []) (r1 := some (.int (sg B (ps B k1)))) (h1 := [pO 3 [.ref 1, .ref 2, .ref 3, .ref 4, .int (nI k1), .int (nI (z + x.length))], pI 161 sgn, pI 161 pl, pI 160 cd1, pI 3 ed]) (st' := [.int (sg B (ps B k1))]) GX4_sign kX4_readChain_34 rfl ⟨_, _, rfl, rfl, .inl ⟨_, _, _, _, rfl, rfl⟩⟩ (Nat.le_of_ble_eq_true rfl) (Nat.le_of_ble_eq_true rfl) (sign_n hW (k := k1) (by omega)) (Nat.zero_le _) rfl (Nat.le_of_ble_eq_true rfl) rfl ?_
        refine P0.b GX4_readChain 7 (ob := []) (cf' := (49, [some (.ref 0), some (.int 2), some (.int O), some (.int 1), some (.int (nI j)), some (.int (sg B (ps B k1)))], [], [pO 3 [.ref 1, .ref 2, .ref 3, .ref 4, .int ((nI k1) + 1), .int (nI (z + x.length))], pI 161 sgn, pI 161 pl, pI 160 cd1, pI 3 ed])) rfl trivial ?_
        rw [show (nI k1) + 1 = nI (k1 + 1) from nI_add _ _]
        refine P0.b GX4_readChain 3 (ob := []) (cf' := (52, [some (.ref 0), some (.int 2), some (.int O), some (.int 1), some (.int (nI j)), some (.int (sg B (ps B k1)))], [.int O, .int 2, .ref 0], [pO 3 [.ref 1, .ref 2, .ref 3, .ref 4, .int (nI (k1 + 1)), .int (nI (z + x.length))], pI 161 sgn, pI 161 pl, pI 160 cd1, pI 3 ed])) rfl trivial ?_
        have hQh2 := hW.jn (k := k1) (by omega) jS_ok h2
        refine P0.cs (as := [.ref 0, .int 2, .int O]) (rest := []) GX4_readLink kX4_readChain_52 rfl ⟨_, _, rfl, rfl, .inl ⟨_, _, _, _, rfl, rfl⟩⟩ (Nat.le_of_ble_eq_true rfl) (Nat.le_of_ble_eq_true rfl) (hL ((k1 + 1)) ((z + x.length)) cd1 (by omega) (by omega)) (Nat.le_of_ble_eq_true rfl) (fun r h' q => q.len) ?_
        intro r h' hq
        rcases hX191 : lkr (ps B (k1 + 1)) with q191 | ⟨x191, p191⟩ <;> rw [hX191] at hq
        · obtain ⟨k191, sz191, cd191, hk191, rfl, rfl, rfl⟩ := hq
          show P0 _ _ _ _ (55, [some (.ref 0), some (.int 2), some (.int O), some (.int 1), some (.int (nI j)), some (.int (sg B (ps B k1)))], [.int 0], [pO 3 [.ref 1, .ref 2, .ref 3, .ref 4, .int (nI k191), .int sz191], pI 161 sgn, pI 161 pl, pI 160 cd191, pI 3 ed]) _
          refine P0.b GX4_readChain 1 (ob := []) (cf' := (if (0 : Int32) = 0 then 71 else 58, [some (.ref 0), some (.int 2), some (.int O), some (.int 1), some (.int (nI j)), some (.int (sg B (ps B k1)))], [], [pO 3 [.ref 1, .ref 2, .ref 3, .ref 4, .int (nI k191), .int sz191], pI 161 sgn, pI 161 pl, pI 160 cd191, pI 3 ed])) rfl trivial ?_
          rw [if_pos (show ((0 : Int32) = 0) from by decide)]
          refine P0.b GX4_readChain 4 (ob := []) (cf' := (10, [some (.ref 0), some (.int 2), some (.int O), some (.int 0), some (.int ((nI j) + 1)), some (.int (sg B (ps B k1)))], [], [pO 3 [.ref 1, .ref 2, .ref 3, .ref 4, .int (nI k191), .int sz191], pI 161 sgn, pI 161 pl, pI 160 cd191, pI 3 ed])) rfl trivial ?_
          rw [show (nI j) + 1 = nI (j + 1) from nI_add _ _]
          refine P0.b GX4_readChain 3 (ob := []) (cf' := (if 160 ≤ nI (j + 1) then 79 else 18, [some (.ref 0), some (.int 2), some (.int O), some (.int 0), some (.int (nI (j + 1))), some (.int (sg B (ps B k1)))], [], [pO 3 [.ref 1, .ref 2, .ref 3, .ref 4, .int (nI k191), .int sz191], pI 161 sgn, pI 161 pl, pI 160 cd191, pI 3 ed])) rfl trivial ?_
          refine P0.if (fun h3 => ?_) (fun h3 => ?_)
          · refine P0.b GX4_readChain 1 (ob := []) (cf' := (80, [some (.ref 0), some (.int 2), some (.int O), some (.int 0), some (.int (nI (j + 1))), some (.int (sg B (ps B k1)))], [.int 0], [pO 3 [.ref 1, .ref 2, .ref 3, .ref 4, .int (nI k191), .int sz191], pI 161 sgn, pI 161 pl, pI 160 cd191, pI 3 ed])) rfl trivial ?_
            exact P0.ri (by decide +kernel) rfl (by rfl) (RQ.no (hP.trans (pch_fail h2 hX191)) hk191)
          · refine P0.b GX4_readChain 2 (ob := []) (cf' := (if (0 : Int32) = 0 then 79 else 22, [some (.ref 0), some (.int 2), some (.int O), some (.int 0), some (.int (nI (j + 1))), some (.int (sg B (ps B k1)))], [], [pO 3 [.ref 1, .ref 2, .ref 3, .ref 4, .int (nI k191), .int sz191], pI 161 sgn, pI 161 pl, pI 160 cd191, pI 3 ed])) rfl trivial ?_
            rw [if_pos (show ((0 : Int32) = 0) from by decide)]
            refine P0.b GX4_readChain 1 (ob := []) (cf' := (80, [some (.ref 0), some (.int 2), some (.int O), some (.int 0), some (.int (nI (j + 1))), some (.int (sg B (ps B k1)))], [.int 0], [pO 3 [.ref 1, .ref 2, .ref 3, .ref 4, .int (nI k191), .int sz191], pI 161 sgn, pI 161 pl, pI 160 cd191, pI 3 ed])) rfl trivial ?_
            exact P0.ri (by decide +kernel) rfl (by rfl) (RQ.no (hP.trans (pch_fail h2 hX191)) hk191)
        · obtain ⟨k191, cd191, hk191, rfl, hm191, hC191, rfl, rfl⟩ := hq
          show P0 _ _ _ _ (55, [some (.ref 0), some (.int 2), some (.int O), some (.int 1), some (.int (nI j)), some (.int (sg B (ps B k1)))], [.int 1], [pO 3 [.ref 1, .ref 2, .ref 3, .ref 4, .int (nI k191), .int (nI ((z + x.length) + x191.length))], pI 161 sgn, pI 161 pl, pI 160 cd191, pI 3 ed]) _
          refine P0.b GX4_readChain 1 (ob := []) (cf' := (if (1 : Int32) = 0 then 71 else 58, [some (.ref 0), some (.int 2), some (.int O), some (.int 1), some (.int (nI j)), some (.int (sg B (ps B k1)))], [], [pO 3 [.ref 1, .ref 2, .ref 3, .ref 4, .int (nI k191), .int (nI ((z + x.length) + x191.length))], pI 161 sgn, pI 161 pl, pI 160 cd191, pI 3 ed])) rfl trivial ?_
          rw [if_neg (show ¬ ((1 : Int32) = 0) from by decide)]
          refine P0.b GX4_readChain 2 (ob := []) (cf' := (61, [some (.ref 0), some (.int 2), some (.int O), some (.int 1), some (.int (nI j)), some (.int (sg B (ps B k1)))], [.int (sg B (ps B k1)), .ref 0], [pO 3 [.ref 1, .ref 2, .ref 3, .ref 4, .int (nI k191), .int (nI ((z + x.length) + x191.length))], pI 161 sgn, pI 161 pl, pI 160 cd191, pI 3 ed])) rfl trivial ?_
          have hQh2 := hW.jn (k := k1) (by omega) jS_ok h2
          refine P0.cd (d0 := 1) (as := [.ref 0, .int (sg B (ps B k1))]) (rest := []) (r1 := some (.int 1)) (h1 := [pO 3 [.ref 1, .ref 2, .ref 3, .ref 4, .int (nI k191), .int (nI (((z + x.length) + x191.length) + 1))], pI 161 sgn, pI 161 pl, pI 160 (upd cd191 ((z + x.length) + x191.length) (sg B (ps B k1))), pI 3 ed]) (st' := [.int 1]) GX4_emit kX4_readChain_61 rfl ⟨_, _, rfl, rfl, .inl ⟨_, _, _, _, rfl, rfl⟩⟩ (Nat.le_of_ble_eq_true rfl) (Nat.le_of_ble_eq_true rfl) (emit_n (sg B (ps B k1)) (by omega)) ((by omega)) rfl (Nat.le_of_ble_eq_true rfl) rfl ?_
          refine P0.b GX4_readChain 1 (ob := []) (cf' := (if (1 : Int32) = 0 then 71 else 67, [some (.ref 0), some (.int 2), some (.int O), some (.int 1), some (.int (nI j)), some (.int (sg B (ps B k1)))], [], [pO 3 [.ref 1, .ref 2, .ref 3, .ref 4, .int (nI k191), .int (nI (((z + x.length) + x191.length) + 1))], pI 161 sgn, pI 161 pl, pI 160 (upd cd191 ((z + x.length) + x191.length) (sg B (ps B k1))), pI 3 ed])) rfl trivial ?_
          rw [if_neg (show ¬ ((1 : Int32) = 0) from by decide)]
          refine P0.b GX4_readChain 5 (ob := []) (cf' := (10, [some (.ref 0), some (.int 2), some (.int O), some (.int 1), some (.int ((nI j) + 1)), some (.int (sg B (ps B k1)))], [], [pO 3 [.ref 1, .ref 2, .ref 3, .ref 4, .int (nI k191), .int (nI (((z + x.length) + x191.length) + 1))], pI 161 sgn, pI 161 pl, pI 160 (upd cd191 ((z + x.length) + x191.length) (sg B (ps B k1))), pI 3 ed])) rfl trivial ?_
          rw [show (nI j) + 1 = nI (j + 1) from nI_add _ _]
          refine P0.forget (ls' := [some (.ref 0), some (.int 2), some (.int O), some (.int 1), some (.int (nI (j + 1))), none]) ⟨.inr rfl, .inr rfl, .inr rfl, .inr rfl, .inr rfl, .inl rfl, trivial⟩ ?_
          rw [ln_2 z x x191 (sg B (ps B k1))]
          exact chl_2 hW hL hzk f (j + 1) k191 (x ++ x191 ++ [sg B (ps B k1)]) _ (by omega) (by omega) hk191 (ln_2b hm hm191) (Cd.bin hC hC191 _) (hP.trans (pch_step h2 hX191))
theorem chain_2 {B sgn pl ed : Nat → Int32} {K : Nat} (hW : RW B sgn pl K) {D : Nat} {O : Int32} {lkr : Nat → PR (List Int32)} (hL : (∀ (k z : Nat) (cd : Nat → Int32), k ≤ K → z ≤ k → P0 (D + 1) 0 0 mX4_readLink (0, ent 3 [.ref 0, .int 2, .int O], [], [pO 3 [.ref 1, .ref 2, .ref 3, .ref 4, .int (nI k), .int (nI z)], pI 161 sgn, pI 161 pl, pI 160 cd, pI 3 ed]) (RQ B sgn pl ed K k z cd (lkr (ps B k))))) : (∀ (k z : Nat) (cd : Nat → Int32), k ≤ K → z ≤ k → P0 (D + 2) 0 0 mX4_readChain (0, ent 6 [.ref 0, .int 2, .int O], [], [pO 3 [.ref 1, .ref 2, .ref 3, .ref 4, .int (nI k), .int (nI z)], pI 161 sgn, pI 161 pl, pI 160 cd, pI 3 ed]) (RQ B sgn pl ed K k z cd ((pc0 (sg B) (nx B) cA.2.2 jSum lkr) (ps B k)))) := by
  intro k z cd hk hzk
  have hK := hW.1
  refine P0.b GX4_readChain 3 (ob := []) (cf' := (3, [some (.ref 0), some (.int 2), some (.int O), none, none, none], [.int O, .int 2, .ref 0], [pO 3 [.ref 1, .ref 2, .ref 3, .ref 4, .int (nI k), .int (nI z)], pI 161 sgn, pI 161 pl, pI 160 cd, pI 3 ed])) rfl trivial ?_
  refine P0.cs (as := [.ref 0, .int 2, .int O]) (rest := []) GX4_readLink kX4_readChain_3 rfl ⟨_, _, rfl, rfl, .inl ⟨_, _, _, _, rfl, rfl⟩⟩ (Nat.le_of_ble_eq_true rfl) (Nat.le_of_ble_eq_true rfl) (hL (k) (z) cd (by omega) (by omega)) (Nat.le_of_ble_eq_true rfl) (fun r h' q => q.len) ?_
  intro r h' hq
  rcases hX192 : lkr (ps B k) with q192 | ⟨x192, p192⟩ <;> rw [hX192] at hq
  · obtain ⟨k192, sz192, cd192, hk192, rfl, rfl, rfl⟩ := hq
    show P0 _ _ _ _ (6, [some (.ref 0), some (.int 2), some (.int O), none, none, none], [.int 0], [pO 3 [.ref 1, .ref 2, .ref 3, .ref 4, .int (nI k192), .int sz192], pI 161 sgn, pI 161 pl, pI 160 cd192, pI 3 ed]) _
    refine P0.b GX4_readChain 3 (ob := []) (cf' := (10, [some (.ref 0), some (.int 2), some (.int O), some (.int 0), some (.int 0), none], [], [pO 3 [.ref 1, .ref 2, .ref 3, .ref 4, .int (nI k192), .int sz192], pI 161 sgn, pI 161 pl, pI 160 cd192, pI 3 ed])) rfl trivial ?_
    refine P0.b GX4_readChain 3 (ob := []) (cf' := (if (160 : Int32) ≤ 0 then 79 else 18, [some (.ref 0), some (.int 2), some (.int O), some (.int 0), some (.int 0), none], [], [pO 3 [.ref 1, .ref 2, .ref 3, .ref 4, .int (nI k192), .int sz192], pI 161 sgn, pI 161 pl, pI 160 cd192, pI 3 ed])) rfl trivial ?_
    rw [if_neg (show ¬ ((160 : Int32) ≤ 0) from by decide)]
    refine P0.b GX4_readChain 2 (ob := []) (cf' := (if (0 : Int32) = 0 then 79 else 22, [some (.ref 0), some (.int 2), some (.int O), some (.int 0), some (.int 0), none], [], [pO 3 [.ref 1, .ref 2, .ref 3, .ref 4, .int (nI k192), .int sz192], pI 161 sgn, pI 161 pl, pI 160 cd192, pI 3 ed])) rfl trivial ?_
    rw [if_pos (show ((0 : Int32) = 0) from by decide)]
    refine P0.b GX4_readChain 1 (ob := []) (cf' := (80, [some (.ref 0), some (.int 2), some (.int O), some (.int 0), some (.int 0), none], [.int 0], [pO 3 [.ref 1, .ref 2, .ref 3, .ref 4, .int (nI k192), .int sz192], pI 161 sgn, pI 161 pl, pI 160 cd192, pI 3 ed])) rfl trivial ?_
    exact P0.ri (by decide +kernel) rfl (by rfl) (RQ.no (pc0_no hX192) hk192)
  · obtain ⟨k192, cd192, hk192, rfl, hm192, hC192, rfl, rfl⟩ := hq
    show P0 _ _ _ _ (6, [some (.ref 0), some (.int 2), some (.int O), none, none, none], [.int 1], [pO 3 [.ref 1, .ref 2, .ref 3, .ref 4, .int (nI k192), .int (nI (z + x192.length))], pI 161 sgn, pI 161 pl, pI 160 cd192, pI 3 ed]) _
    refine P0.b GX4_readChain 3 (ob := []) (cf' := (10, [some (.ref 0), some (.int 2), some (.int O), some (.int 1), some (.int 0), none], [], [pO 3 [.ref 1, .ref 2, .ref 3, .ref 4, .int (nI k192), .int (nI (z + x192.length))], pI 161 sgn, pI 161 pl, pI 160 cd192, pI 3 ed])) rfl trivial ?_
    exact chl_2 hW hL hzk 200 0 k192 x192 cd192 (by omega) (by omega) hk192 hm192 hC192 (pc0_yes hX192)
theorem chl_3 {B sgn pl ed : Nat → Int32} {K : Nat} (hW : RW B sgn pl K) {D : Nat} {O : Int32} {lkr : Nat → PR (List Int32)} (hL : (∀ (k z : Nat) (cd : Nat → Int32), k ≤ K → z ≤ k → P0 (D + 1) 0 0 mX4_readLink (0, ent 3 [.ref 0, .int 3, .int O], [], [pO 3 [.ref 1, .ref 2, .ref 3, .ref 4, .int (nI k), .int (nI z)], pI 161 sgn, pI 161 pl, pI 160 cd, pI 3 ed]) (RQ B sgn pl ed K k z cd (lkr (ps B k))))) {k z : Nat} {cd : Nat → Int32} (hzk : z ≤ k) : ∀ (f j k1 : Nat) (x : List Int32) (cd1 : Nat → Int32), j + f = 200 → j ≤ k1 → k1 ≤ K → k + x.length ≤ k1 → Cd cd z x cd1 → pc0 (sg B) (nx B) cA.2.2 jTerm lkr (ps B k) = pch (sg B) (nx B) cA.2.2 jTerm lkr f x (ps B k1) → P0 (D + 2) 0 0 mX4_readChain (10, [some (.ref 0), some (.int 3), some (.int O), some (.int 1), some (.int (nI j)), none], [], [pO 3 [.ref 1, .ref 2, .ref 3, .ref 4, .int (nI k1), .int (nI (z + x.length))], pI 161 sgn, pI 161 pl, pI 160 cd1, pI 3 ed]) (RQ B sgn pl ed K k z cd (pc0 (sg B) (nx B) cA.2.2 jTerm lkr (ps B k)))
  | 0, j, k1, x, cd1, hjf, hjk, hk1, _, _, _ => absurd hjf (by have := hW.1; omega)
  | f + 1, j, k1, x, cd1, hjf, hjk, hk1, hm, hC, hP => by
    have hK := hW.1
    refine P0.b GX4_readChain 3 (ob := []) (cf' := (if 160 ≤ nI j then 79 else 18, [some (.ref 0), some (.int 3), some (.int O), some (.int 1), some (.int (nI j)), none], [], [pO 3 [.ref 1, .ref 2, .ref 3, .ref 4, .int (nI k1), .int (nI (z + x.length))], pI 161 sgn, pI 161 pl, pI 160 cd1, pI 3 ed])) rfl trivial ?_
    refine P0.if (fun h1 => ?_) (fun h1 => ?_)
    · refine P0.b GX4_readChain 1 (ob := []) (cf' := (80, [some (.ref 0), some (.int 3), some (.int O), some (.int 1), some (.int (nI j)), none], [.int 1], [pO 3 [.ref 1, .ref 2, .ref 3, .ref 4, .int (nI k1), .int (nI (z + x.length))], pI 161 sgn, pI 161 pl, pI 160 cd1, pI 3 ed])) rfl trivial ?_
      exact P0.ri (by decide +kernel) rfl (by rfl) (RQ.yes (hP.trans (pch_stop (full_stop hW hk1 hjk h1 jT_ok))) hk1 rfl hm hC)
    · refine P0.b GX4_readChain 2 (ob := []) (cf' := (if (1 : Int32) = 0 then 79 else 22, [some (.ref 0), some (.int 3), some (.int O), some (.int 1), some (.int (nI j)), none], [], [pO 3 [.ref 1, .ref 2, .ref 3, .ref 4, .int (nI k1), .int (nI (z + x.length))], pI 161 sgn, pI 161 pl, pI 160 cd1, pI 3 ed])) rfl trivial ?_
      rw [if_neg (show ¬ ((1 : Int32) = 0) from by decide)]
      refine P0.b GX4_readChain 2 (ob := []) (cf' := (24, [some (.ref 0), some (.int 3), some (.int O), some (.int 1), some (.int (nI j)), none], [.ref 0, .int 3], [pO 3 [.ref 1, .ref 2, .ref 3, .ref 4, .int (nI k1), .int (nI (z + x.length))], pI 161 sgn, pI 161 pl, pI 160 cd1, pI 3 ed])) rfl trivial ?_
      refine P0.cd (d0 := 0) (as := [.ref 0]) (rest := [.int 3]) (r1 := some (.int (sg B (ps B k1)))) (h1 := [pO 3 [.ref 1, .ref 2, .ref 3, .ref 4, .int (nI k1), .int (nI (z + x.length))], pI 161 sgn, pI 161 pl, pI 160 cd1, pI 3 ed]) (st' := [.int (sg B (ps B k1)), .int 3]) GX4_sign kX4_readChain_24 rfl ⟨_, _, rfl, rfl, .inl ⟨_, _, _, _, rfl, rfl⟩⟩ (Nat.le_of_ble_eq_true rfl) (Nat.le_of_ble_eq_true rfl) (sign_n hW (k := k1) (by omega)) (Nat.zero_le _) rfl (Nat.le_of_ble_eq_true rfl) rfl ?_
      refine P0.cr (io := []) (as := [.int 3, .int (sg B (ps B k1))]) (rest := []) (hc := []) (hc1 := []) (r1 := some (.int (if jTerm (sg B (ps B k1)) = true then 1 else 0))) (st' := [.int (if jTerm (sg B (ps B k1)) = true then 1 else 0)]) (h' := [pO 3 [.ref 1, .ref 2, .ref 3, .ref 4, .int (nI k1), .int (nI (z + x.length))], pI 161 sgn, pI 161 pl, pI 160 cd1, pI 3 ed]) (d0 := 0) GX4_joins kX4_readChain_27 rfl rfl (Nat.le_of_ble_eq_true rfl) (Nat.le_of_ble_eq_true rfl) rfl trivial (joins_3 (sg B (ps B k1))) (Nat.le_of_ble_eq_true rfl) rfl (Nat.le_of_ble_eq_true rfl) (Nat.le_of_ble_eq_true rfl) rfl rfl ?_
      refine P0.b GX4_readChain 1 (ob := []) (cf' := (if (if jTerm (sg B (ps B k1)) = true then 1 else 0) = 0 then 79 else 33, [some (.ref 0), some (.int 3), some (.int O), some (.int 1), some (.int (nI j)), none], [], [pO 3 [.ref 1, .ref 2, .ref 3, .ref 4, .int (nI k1), .int (nI (z + x.length))], pI 161 sgn, pI 161 pl, pI 160 cd1, pI 3 ed])) rfl trivial ?_
      refine P0.ifB (fun h2 => ?_) (fun h2 => ?_)
      · refine P0.b GX4_readChain 1 (ob := []) (cf' := (80, [some (.ref 0), some (.int 3), some (.int O), some (.int 1), some (.int (nI j)), none], [.int 1], [pO 3 [.ref 1, .ref 2, .ref 3, .ref 4, .int (nI k1), .int (nI (z + x.length))], pI 161 sgn, pI 161 pl, pI 160 cd1, pI 3 ed])) rfl trivial ?_
        exact P0.ri (by decide +kernel) rfl (by rfl) (RQ.yes (hP.trans (pch_stop (Bool.eq_false_iff.mpr h2))) hk1 rfl hm hC)
      · refine P0.b GX4_readChain 1 (ob := []) (cf' := (34, [some (.ref 0), some (.int 3), some (.int O), some (.int 1), some (.int (nI j)), none], [.ref 0], [pO 3 [.ref 1, .ref 2, .ref 3, .ref 4, .int (nI k1), .int (nI (z + x.length))], pI 161 sgn, pI 161 pl, pI 160 cd1, pI 3 ed])) rfl trivial ?_
        refine P0.cd (d0 := 0) (as := [.ref 0]) (rest := []) (r1 := some (.int (sg B (ps B k1)))) (h1 := [pO 3 [.ref 1, .ref 2, .ref 3, .ref 4, .int (nI k1), .int (nI (z + x.length))], pI 161 sgn, pI 161 pl, pI 160 cd1, pI 3 ed]) (st' := [.int (sg B (ps B k1))]) GX4_sign kX4_readChain_34 rfl ⟨_, _, rfl, rfl, .inl ⟨_, _, _, _, rfl, rfl⟩⟩ (Nat.le_of_ble_eq_true rfl) (Nat.le_of_ble_eq_true rfl) (sign_n hW (k := k1) (by omega)) (Nat.zero_le _) rfl (Nat.le_of_ble_eq_true rfl) rfl ?_
        refine P0.b GX4_readChain 7 (ob := []) (cf' := (49, [some (.ref 0), some (.int 3), some (.int O), some (.int 1), some (.int (nI j)), some (.int (sg B (ps B k1)))], [], [pO 3 [.ref 1, .ref 2, .ref 3, .ref 4, .int ((nI k1) + 1), .int (nI (z + x.length))], pI 161 sgn, pI 161 pl, pI 160 cd1, pI 3 ed])) rfl trivial ?_
        rw [show (nI k1) + 1 = nI (k1 + 1) from nI_add _ _]
        refine P0.b GX4_readChain 3 (ob := []) (cf' := (52, [some (.ref 0), some (.int 3), some (.int O), some (.int 1), some (.int (nI j)), some (.int (sg B (ps B k1)))], [.int O, .int 3, .ref 0], [pO 3 [.ref 1, .ref 2, .ref 3, .ref 4, .int (nI (k1 + 1)), .int (nI (z + x.length))], pI 161 sgn, pI 161 pl, pI 160 cd1, pI 3 ed])) rfl trivial ?_
        have hQh2 := hW.jn (k := k1) (by omega) jT_ok h2
        refine P0.cs (as := [.ref 0, .int 3, .int O]) (rest := []) GX4_readLink kX4_readChain_52 rfl ⟨_, _, rfl, rfl, .inl ⟨_, _, _, _, rfl, rfl⟩⟩ (Nat.le_of_ble_eq_true rfl) (Nat.le_of_ble_eq_true rfl) (hL ((k1 + 1)) ((z + x.length)) cd1 (by omega) (by omega)) (Nat.le_of_ble_eq_true rfl) (fun r h' q => q.len) ?_
        intro r h' hq
        rcases hX193 : lkr (ps B (k1 + 1)) with q193 | ⟨x193, p193⟩ <;> rw [hX193] at hq
        · obtain ⟨k193, sz193, cd193, hk193, rfl, rfl, rfl⟩ := hq
          show P0 _ _ _ _ (55, [some (.ref 0), some (.int 3), some (.int O), some (.int 1), some (.int (nI j)), some (.int (sg B (ps B k1)))], [.int 0], [pO 3 [.ref 1, .ref 2, .ref 3, .ref 4, .int (nI k193), .int sz193], pI 161 sgn, pI 161 pl, pI 160 cd193, pI 3 ed]) _
          refine P0.b GX4_readChain 1 (ob := []) (cf' := (if (0 : Int32) = 0 then 71 else 58, [some (.ref 0), some (.int 3), some (.int O), some (.int 1), some (.int (nI j)), some (.int (sg B (ps B k1)))], [], [pO 3 [.ref 1, .ref 2, .ref 3, .ref 4, .int (nI k193), .int sz193], pI 161 sgn, pI 161 pl, pI 160 cd193, pI 3 ed])) rfl trivial ?_
          rw [if_pos (show ((0 : Int32) = 0) from by decide)]
          refine P0.b GX4_readChain 4 (ob := []) (cf' := (10, [some (.ref 0), some (.int 3), some (.int O), some (.int 0), some (.int ((nI j) + 1)), some (.int (sg B (ps B k1)))], [], [pO 3 [.ref 1, .ref 2, .ref 3, .ref 4, .int (nI k193), .int sz193], pI 161 sgn, pI 161 pl, pI 160 cd193, pI 3 ed])) rfl trivial ?_
          rw [show (nI j) + 1 = nI (j + 1) from nI_add _ _]
          refine P0.b GX4_readChain 3 (ob := []) (cf' := (if 160 ≤ nI (j + 1) then 79 else 18, [some (.ref 0), some (.int 3), some (.int O), some (.int 0), some (.int (nI (j + 1))), some (.int (sg B (ps B k1)))], [], [pO 3 [.ref 1, .ref 2, .ref 3, .ref 4, .int (nI k193), .int sz193], pI 161 sgn, pI 161 pl, pI 160 cd193, pI 3 ed])) rfl trivial ?_
          refine P0.if (fun h3 => ?_) (fun h3 => ?_)
          · refine P0.b GX4_readChain 1 (ob := []) (cf' := (80, [some (.ref 0), some (.int 3), some (.int O), some (.int 0), some (.int (nI (j + 1))), some (.int (sg B (ps B k1)))], [.int 0], [pO 3 [.ref 1, .ref 2, .ref 3, .ref 4, .int (nI k193), .int sz193], pI 161 sgn, pI 161 pl, pI 160 cd193, pI 3 ed])) rfl trivial ?_
            exact P0.ri (by decide +kernel) rfl (by rfl) (RQ.no (hP.trans (pch_fail h2 hX193)) hk193)
          · refine P0.b GX4_readChain 2 (ob := []) (cf' := (if (0 : Int32) = 0 then 79 else 22, [some (.ref 0), some (.int 3), some (.int O), some (.int 0), some (.int (nI (j + 1))), some (.int (sg B (ps B k1)))], [], [pO 3 [.ref 1, .ref 2, .ref 3, .ref 4, .int (nI k193), .int sz193], pI 161 sgn, pI 161 pl, pI 160 cd193, pI 3 ed])) rfl trivial ?_
            rw [if_pos (show ((0 : Int32) = 0) from by decide)]
            refine P0.b GX4_readChain 1 (ob := []) (cf' := (80, [some (.ref 0), some (.int 3), some (.int O), some (.int 0), some (.int (nI (j + 1))), some (.int (sg B (ps B k1)))], [.int 0], [pO 3 [.ref 1, .ref 2, .ref 3, .ref 4, .int (nI k193), .int sz193], pI 161 sgn, pI 161 pl, pI 160 cd193, pI 3 ed])) rfl trivial ?_
            exact P0.ri (by decide +kernel) rfl (by rfl) (RQ.no (hP.trans (pch_fail h2 hX193)) hk193)
        · obtain ⟨k193, cd193, hk193, rfl, hm193, hC193, rfl, rfl⟩ := hq
          show P0 _ _ _ _ (55, [some (.ref 0), some (.int 3), some (.int O), some (.int 1), some (.int (nI j)), some (.int (sg B (ps B k1)))], [.int 1], [pO 3 [.ref 1, .ref 2, .ref 3, .ref 4, .int (nI k193), .int (nI ((z + x.length) + x193.length))], pI 161 sgn, pI 161 pl, pI 160 cd193, pI 3 ed]) _
          refine P0.b GX4_readChain 1 (ob := []) (cf' := (if (1 : Int32) = 0 then 71 else 58, [some (.ref 0), some (.int 3), some (.int O), some (.int 1), some (.int (nI j)), some (.int (sg B (ps B k1)))], [], [pO 3 [.ref 1, .ref 2, .ref 3, .ref 4, .int (nI k193), .int (nI ((z + x.length) + x193.length))], pI 161 sgn, pI 161 pl, pI 160 cd193, pI 3 ed])) rfl trivial ?_
          rw [if_neg (show ¬ ((1 : Int32) = 0) from by decide)]
          refine P0.b GX4_readChain 2 (ob := []) (cf' := (61, [some (.ref 0), some (.int 3), some (.int O), some (.int 1), some (.int (nI j)), some (.int (sg B (ps B k1)))], [.int (sg B (ps B k1)), .ref 0], [pO 3 [.ref 1, .ref 2, .ref 3, .ref 4, .int (nI k193), .int (nI ((z + x.length) + x193.length))], pI 161 sgn, pI 161 pl, pI 160 cd193, pI 3 ed])) rfl trivial ?_
          have hQh2 := hW.jn (k := k1) (by omega) jT_ok h2
          refine P0.cd (d0 := 1) (as := [.ref 0, .int (sg B (ps B k1))]) (rest := []) (r1 := some (.int 1)) (h1 := [pO 3 [.ref 1, .ref 2, .ref 3, .ref 4, .int (nI k193), .int (nI (((z + x.length) + x193.length) + 1))], pI 161 sgn, pI 161 pl, pI 160 (upd cd193 ((z + x.length) + x193.length) (sg B (ps B k1))), pI 3 ed]) (st' := [.int 1]) GX4_emit kX4_readChain_61 rfl ⟨_, _, rfl, rfl, .inl ⟨_, _, _, _, rfl, rfl⟩⟩ (Nat.le_of_ble_eq_true rfl) (Nat.le_of_ble_eq_true rfl) (emit_n (sg B (ps B k1)) (by omega)) ((by omega)) rfl (Nat.le_of_ble_eq_true rfl) rfl ?_
          refine P0.b GX4_readChain 1 (ob := []) (cf' := (if (1 : Int32) = 0 then 71 else 67, [some (.ref 0), some (.int 3), some (.int O), some (.int 1), some (.int (nI j)), some (.int (sg B (ps B k1)))], [], [pO 3 [.ref 1, .ref 2, .ref 3, .ref 4, .int (nI k193), .int (nI (((z + x.length) + x193.length) + 1))], pI 161 sgn, pI 161 pl, pI 160 (upd cd193 ((z + x.length) + x193.length) (sg B (ps B k1))), pI 3 ed])) rfl trivial ?_
          rw [if_neg (show ¬ ((1 : Int32) = 0) from by decide)]
          refine P0.b GX4_readChain 5 (ob := []) (cf' := (10, [some (.ref 0), some (.int 3), some (.int O), some (.int 1), some (.int ((nI j) + 1)), some (.int (sg B (ps B k1)))], [], [pO 3 [.ref 1, .ref 2, .ref 3, .ref 4, .int (nI k193), .int (nI (((z + x.length) + x193.length) + 1))], pI 161 sgn, pI 161 pl, pI 160 (upd cd193 ((z + x.length) + x193.length) (sg B (ps B k1))), pI 3 ed])) rfl trivial ?_
          rw [show (nI j) + 1 = nI (j + 1) from nI_add _ _]
          refine P0.forget (ls' := [some (.ref 0), some (.int 3), some (.int O), some (.int 1), some (.int (nI (j + 1))), none]) ⟨.inr rfl, .inr rfl, .inr rfl, .inr rfl, .inr rfl, .inl rfl, trivial⟩ ?_
          rw [ln_2 z x x193 (sg B (ps B k1))]
          exact chl_3 hW hL hzk f (j + 1) k193 (x ++ x193 ++ [sg B (ps B k1)]) _ (by omega) (by omega) hk193 (ln_2b hm hm193) (Cd.bin hC hC193 _) (hP.trans (pch_step h2 hX193))
theorem chain_3 {B sgn pl ed : Nat → Int32} {K : Nat} (hW : RW B sgn pl K) {D : Nat} {O : Int32} {lkr : Nat → PR (List Int32)} (hL : (∀ (k z : Nat) (cd : Nat → Int32), k ≤ K → z ≤ k → P0 (D + 1) 0 0 mX4_readLink (0, ent 3 [.ref 0, .int 3, .int O], [], [pO 3 [.ref 1, .ref 2, .ref 3, .ref 4, .int (nI k), .int (nI z)], pI 161 sgn, pI 161 pl, pI 160 cd, pI 3 ed]) (RQ B sgn pl ed K k z cd (lkr (ps B k))))) : (∀ (k z : Nat) (cd : Nat → Int32), k ≤ K → z ≤ k → P0 (D + 2) 0 0 mX4_readChain (0, ent 6 [.ref 0, .int 3, .int O], [], [pO 3 [.ref 1, .ref 2, .ref 3, .ref 4, .int (nI k), .int (nI z)], pI 161 sgn, pI 161 pl, pI 160 cd, pI 3 ed]) (RQ B sgn pl ed K k z cd ((pc0 (sg B) (nx B) cA.2.2 jTerm lkr) (ps B k)))) := by
  intro k z cd hk hzk
  have hK := hW.1
  refine P0.b GX4_readChain 3 (ob := []) (cf' := (3, [some (.ref 0), some (.int 3), some (.int O), none, none, none], [.int O, .int 3, .ref 0], [pO 3 [.ref 1, .ref 2, .ref 3, .ref 4, .int (nI k), .int (nI z)], pI 161 sgn, pI 161 pl, pI 160 cd, pI 3 ed])) rfl trivial ?_
  refine P0.cs (as := [.ref 0, .int 3, .int O]) (rest := []) GX4_readLink kX4_readChain_3 rfl ⟨_, _, rfl, rfl, .inl ⟨_, _, _, _, rfl, rfl⟩⟩ (Nat.le_of_ble_eq_true rfl) (Nat.le_of_ble_eq_true rfl) (hL (k) (z) cd (by omega) (by omega)) (Nat.le_of_ble_eq_true rfl) (fun r h' q => q.len) ?_
  intro r h' hq
  rcases hX194 : lkr (ps B k) with q194 | ⟨x194, p194⟩ <;> rw [hX194] at hq
  · obtain ⟨k194, sz194, cd194, hk194, rfl, rfl, rfl⟩ := hq
    show P0 _ _ _ _ (6, [some (.ref 0), some (.int 3), some (.int O), none, none, none], [.int 0], [pO 3 [.ref 1, .ref 2, .ref 3, .ref 4, .int (nI k194), .int sz194], pI 161 sgn, pI 161 pl, pI 160 cd194, pI 3 ed]) _
    refine P0.b GX4_readChain 3 (ob := []) (cf' := (10, [some (.ref 0), some (.int 3), some (.int O), some (.int 0), some (.int 0), none], [], [pO 3 [.ref 1, .ref 2, .ref 3, .ref 4, .int (nI k194), .int sz194], pI 161 sgn, pI 161 pl, pI 160 cd194, pI 3 ed])) rfl trivial ?_
    refine P0.b GX4_readChain 3 (ob := []) (cf' := (if (160 : Int32) ≤ 0 then 79 else 18, [some (.ref 0), some (.int 3), some (.int O), some (.int 0), some (.int 0), none], [], [pO 3 [.ref 1, .ref 2, .ref 3, .ref 4, .int (nI k194), .int sz194], pI 161 sgn, pI 161 pl, pI 160 cd194, pI 3 ed])) rfl trivial ?_
    rw [if_neg (show ¬ ((160 : Int32) ≤ 0) from by decide)]
    refine P0.b GX4_readChain 2 (ob := []) (cf' := (if (0 : Int32) = 0 then 79 else 22, [some (.ref 0), some (.int 3), some (.int O), some (.int 0), some (.int 0), none], [], [pO 3 [.ref 1, .ref 2, .ref 3, .ref 4, .int (nI k194), .int sz194], pI 161 sgn, pI 161 pl, pI 160 cd194, pI 3 ed])) rfl trivial ?_
    rw [if_pos (show ((0 : Int32) = 0) from by decide)]
    refine P0.b GX4_readChain 1 (ob := []) (cf' := (80, [some (.ref 0), some (.int 3), some (.int O), some (.int 0), some (.int 0), none], [.int 0], [pO 3 [.ref 1, .ref 2, .ref 3, .ref 4, .int (nI k194), .int sz194], pI 161 sgn, pI 161 pl, pI 160 cd194, pI 3 ed])) rfl trivial ?_
    exact P0.ri (by decide +kernel) rfl (by rfl) (RQ.no (pc0_no hX194) hk194)
  · obtain ⟨k194, cd194, hk194, rfl, hm194, hC194, rfl, rfl⟩ := hq
    show P0 _ _ _ _ (6, [some (.ref 0), some (.int 3), some (.int O), none, none, none], [.int 1], [pO 3 [.ref 1, .ref 2, .ref 3, .ref 4, .int (nI k194), .int (nI (z + x194.length))], pI 161 sgn, pI 161 pl, pI 160 cd194, pI 3 ed]) _
    refine P0.b GX4_readChain 3 (ob := []) (cf' := (10, [some (.ref 0), some (.int 3), some (.int O), some (.int 1), some (.int 0), none], [], [pO 3 [.ref 1, .ref 2, .ref 3, .ref 4, .int (nI k194), .int (nI (z + x194.length))], pI 161 sgn, pI 161 pl, pI 160 cd194, pI 3 ed])) rfl trivial ?_
    exact chl_3 hW hL hzk 200 0 k194 x194 cd194 (by omega) (by omega) hk194 hm194 hC194 (pc0_yes hX194)
