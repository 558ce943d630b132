/-! ===== laid by program (wip/tools) ===== -/
/-- of so many seeds: by how many enough is sure -/
def chN (a : Nat → Nat → Int32) (t : Nat) (age : Int32) (m : Nat) (seed k : Int32) : Nat → Nat
  | 0 => 0
  | i + 1 => chN a t age m seed k i + (if kb 7 (sureV (gat0 (up2 a 4 (cpN (drD (seed + nI i)) (a 4) 6)) t age m) (sentV (a 6) m)) < k then 0 else 1)
theorem chN_le (a : Nat → Nat → Int32) (t : Nat) (age : Int32) (m : Nat) (seed k : Int32) : ∀ i, chN a t age m seed k i ≤ i
  | 0 => Nat.le_refl _
  | i + 1 => by
    have := chN_le a t age m seed k i
    show _ + _ ≤ _
    split <;> omega
theorem lgc0 {q : Nat} (h : q < 2 ^ 31) : lg_cmp (lN q) 0 = 0 ↔ q = 0 := by
  rw [lgc_eq, show (0 : Int64) = lN 0 from rfl, lN_eq h (by decide)]
theorem gcd_step (p q : Nat) : Nat.gcd q (p % q) = Nat.gcd p q := by
  rw [Nat.gcd_comm q (p % q), ← Nat.gcd_rec, Nat.gcd_comm]
theorem chN_y {a : Nat → Nat → Int32} {t : Nat} {age : Int32} {m : Nat} {seed k : Int32} {i : Nat} {S : Int32} (hS : sureV (gat0 (up2 a 4 (cpN (drD (seed + nI i)) (a 4) 6)) t age m) (sentV (a 6) m) = S) (h : kb 7 S < k) : lN (chN a t age m seed k i) + 0 = lN (chN a t age m seed k (i + 1)) := by
  rw [Int64.add_zero]
  have : chN a t age m seed k (i + 1) = chN a t age m seed k i + 0 := by
    show chN a t age m seed k i + (if kb 7 (sureV (gat0 (up2 a 4 (cpN (drD (seed + nI i)) (a 4) 6)) t age m) (sentV (a 6) m)) < k then 0 else 1) = _
    rw [hS, if_pos h]
  rw [this]
  rfl
theorem chN_n {a : Nat → Nat → Int32} {t : Nat} {age : Int32} {m : Nat} {seed k : Int32} {i : Nat} {S : Int32} (hS : sureV (gat0 (up2 a 4 (cpN (drD (seed + nI i)) (a 4) 6)) t age m) (sentV (a 6) m) = S) (h : ¬ kb 7 S < k) : lN (chN a t age m seed k i) + 1 = lN (chN a t age m seed k (i + 1)) := by
  rw [lN_1]
  have : chN a t age m seed k (i + 1) = chN a t age m seed k i + 1 := by
    show chN a t age m seed k i + (if kb 7 (sureV (gat0 (up2 a 4 (cpN (drD (seed + nI i)) (a 4) 6)) t age m) (sentV (a 6) m)) < k then 0 else 1) = _
    rw [hS, if_neg h]
  rw [this]
set_option maxHeartbeats 1000000 in
theorem lp_gcd {g z : Nat → Int32} {w : Int64} {a b : Nat → Nat → Int32} {seed k part : Int32} {N A : Nat} (h1 : 1 ≤ N) (h20 : N ≤ 20) (hA : A ≤ N) : ∀ (F p q : Nat), q < F → p ≤ 20 → q ≤ 20 → 0 < Nat.gcd p q → P0 0 0 0 mX11_chance (98, [some (.ref 0), some (.int seed), some (.int (nI N)), some (.int k), some (.int part), some (.long (lN A)), none, some (.long (lN p)), none, some (.long (lN q)), none, none, none], [], hC g z w a b) (fun r h' => r = some (.long (if part = 0 then lN (A / Nat.gcd p q) else lN (N / Nat.gcd p q))) ∧ h' = hC g z w a b)
  | 0, p, q, hF, _, _, _ => absurd hF (Nat.not_lt_zero q)
  | F + 1, p, q, hF, hp, hq, hG => by
    by_cases h0 : q = 0
    · refine P0.b GX11_chance 4 (ob := []) (cf' := (if lg_cmp (lN q) 0 = 0 then 123 else 105, [some (.ref 0), some (.int seed), some (.int (nI N)), some (.int k), some (.int part), some (.long (lN A)), none, some (.long (lN p)), none, some (.long (lN q)), none, none, none], [], hC g z w a b)) rfl trivial ?_
      rw [if_pos (show lg_cmp (lN q) 0 = 0 from (lgc0 (by omega)).mpr h0)]
      refine P0.b GX11_chance 2 (ob := []) (cf' := (if part = 0 then 128 else 136, [some (.ref 0), some (.int seed), some (.int (nI N)), some (.int k), some (.int part), some (.long (lN A)), none, some (.long (lN p)), none, some (.long (lN q)), none, none, none], [], hC g z w a b)) rfl trivial ?_
      refine P0.if (fun h1 => ?_) (fun h1 => ?_)
      · refine P0.b GX11_chance 4 (ob := [¬ lN p = 0]) (cf' := (141, [some (.ref 0), some (.int seed), some (.int (nI N)), some (.int k), some (.int part), some (.long (lN A)), none, some (.long (lN p)), none, some (.long (lN q)), none, none, none], [.long ((lN A) / (lN p))], hC g z w a b)) rfl ⟨(fun z => by have := (lN_eq (b := 0) (by omega) (by decide)).mp z; have : Nat.gcd p q = p := (by rw [h0]; exact Nat.gcd_zero_right p); omega), trivial⟩ ?_
        exact P0.rl (by decide +kernel) rfl ⟨by rw [if_pos h1, show Nat.gcd p q = p from by rw [h0]; exact Nat.gcd_zero_right p]; rw [pk_lDiv (by omega) (by have : Nat.gcd p q = p := (by rw [h0]; exact Nat.gcd_zero_right p); omega) (by omega)], rfl⟩
      · refine P0.b GX11_chance 4 (ob := [¬ lN p = 0]) (cf' := (141, [some (.ref 0), some (.int seed), some (.int (nI N)), some (.int k), some (.int part), some (.long (lN A)), none, some (.long (lN p)), none, some (.long (lN q)), none, none, none], [.long (((nI N).toInt64) / (lN p))], hC g z w a b)) rfl ⟨(fun z => by have := (lN_eq (b := 0) (by omega) (by decide)).mp z; have : Nat.gcd p q = p := (by rw [h0]; exact Nat.gcd_zero_right p); omega), trivial⟩ ?_
        exact P0.rl (by decide +kernel) rfl ⟨by rw [if_neg h1, show Nat.gcd p q = p from by rw [h0]; exact Nat.gcd_zero_right p]; rw [nI_l (by omega)]; rw [pk_lDiv (by omega) (by have : Nat.gcd p q = p := (by rw [h0]; exact Nat.gcd_zero_right p); omega) (by omega)], rfl⟩
    · refine P0.b GX11_chance 4 (ob := []) (cf' := (if lg_cmp (lN q) 0 = 0 then 123 else 105, [some (.ref 0), some (.int seed), some (.int (nI N)), some (.int k), some (.int part), some (.long (lN A)), none, some (.long (lN p)), none, some (.long (lN q)), none, none, none], [], hC g z w a b)) rfl trivial ?_
      rw [if_neg (show ¬ (lg_cmp (lN q) 0 = 0) from fun z => h0 ((lgc0 (by omega)).mp z))]
      refine P0.b GX11_chance 8 (ob := [¬ lN q = 0]) (cf' := (120, [some (.ref 0), some (.int seed), some (.int (nI N)), some (.int k), some (.int part), some (.long (lN A)), none, some (.long (lN q)), none, some (.long ((lN p) - (lN p) / (lN q) * (lN q))), none, some (.long ((lN p) - (lN p) / (lN q) * (lN q))), none], [], hC g z w a b)) rfl ⟨(fun z => by have := (lN_eq (b := 0) (by omega) (by decide)).mp z; omega), trivial⟩ ?_
      refine P0.b GX11_chance 1 (ob := []) (cf' := (98, [some (.ref 0), some (.int seed), some (.int (nI N)), some (.int k), some (.int part), some (.long (lN A)), none, some (.long (lN q)), none, some (.long ((lN p) - (lN p) / (lN q) * (lN q))), none, some (.long ((lN p) - (lN p) / (lN q) * (lN q))), none], [], hC g z w a b)) rfl trivial ?_
      refine P0.forget (ls' := [some (.ref 0), some (.int seed), some (.int (nI N)), some (.int k), some (.int part), some (.long (lN A)), none, some (.long (lN q)), none, some (.long ((lN p) - (lN p) / (lN q) * (lN q))), none, none, none]) ⟨.inr rfl, .inr rfl, .inr rfl, .inr rfl, .inr rfl, .inr rfl, .inr rfl, .inr rfl, .inr rfl, .inr rfl, .inr rfl, .inl rfl, .inr rfl, trivial⟩ ?_
      rw [pk_lRem (by omega) (by omega) (by omega)]
      rw [← gcd_step]
      exact lp_gcd h1 h20 hA F q (p % q) (by have := Nat.mod_lt p (show 0 < q by omega); omega) (by omega) (by have := Nat.mod_lt p (show 0 < q by omega); omega) (by rw [gcd_step]; exact hG)
set_option maxHeartbeats 1000000 in
theorem chance_no {g z : Nat → Int32} {w : Int64} {a b : Nat → Nat → Int32} (seed n k part : Int32) (h : ¬ ((1 ≤ n ∧ n ≤ 20) ∧ (0 ≤ k ∧ k ≤ 6) ∧ (0 ≤ part ∧ part ≤ 1))) : P0 1 0 0 mX11_chance (0, ent 13 [.ref 0, .int seed, .int n, .int k, .int part], [], hC g z w a b) (fun r h' => r = some (.long (-4611686018427387904)) ∧ h' = hC g z w a b) := by
  refine P0.b GX11_chance 4 (ob := []) (cf' := (6, [some (.ref 0), some (.int seed), some (.int n), some (.int k), some (.int part), none, none, none, none, none, none, none, none], [.long 20, .long 1, .long n.toInt64], hC g z w a b)) rfl trivial ?_
  refine P0.cr (io := []) (as := [.long n.toInt64, .long ((1 : Int32).toInt64), .long ((20 : Int32).toInt64)]) (rest := []) (hc := []) (hc1 := []) (r1 := some (.int (if 1 ≤ n ∧ n ≤ 20 then 1 else 0))) (st' := [.int (if 1 ≤ n ∧ n ≤ 20 then 1 else 0)]) (h' := hC g z w a b) (d0 := 0) GX11_in kX11_chance_6 rfl rfl (Nat.le_of_ble_eq_true rfl) (Nat.le_of_ble_eq_true rfl) rfl trivial (e_in32 n 1 20) (Nat.le_of_ble_eq_true rfl) rfl (Nat.le_of_ble_eq_true rfl) (Nat.le_of_ble_eq_true rfl) rfl rfl ?_
  refine P0.b GX11_chance 1 (ob := []) (cf' := (if (if 1 ≤ n ∧ n ≤ 20 then 1 else 0) = 0 then 35 else 12, [some (.ref 0), some (.int seed), some (.int n), some (.int k), some (.int part), none, none, none, none, none, none, none, none], [], hC g z w a b)) rfl trivial ?_
  refine P0.ifB (fun h1 => ?_) (fun h1 => ?_)
  · refine P0.b GX11_chance 1 (ob := []) (cf' := (38, [some (.ref 0), some (.int seed), some (.int n), some (.int k), some (.int part), none, none, none, none, none, none, none, none], [.long (-4611686018427387904)], hC g z w a b)) rfl trivial ?_
    exact P0.rl (by decide +kernel) rfl ⟨rfl, rfl⟩
  · refine P0.b GX11_chance 4 (ob := []) (cf' := (18, [some (.ref 0), some (.int seed), some (.int n), some (.int k), some (.int part), none, none, none, none, none, none, none, none], [.long 6, .long 0, .long k.toInt64], hC g z w a b)) rfl trivial ?_
    refine P0.cr (io := []) (as := [.long k.toInt64, .long ((0 : Int32).toInt64), .long ((6 : Int32).toInt64)]) (rest := []) (hc := []) (hc1 := []) (r1 := some (.int (if 0 ≤ k ∧ k ≤ 6 then 1 else 0))) (st' := [.int (if 0 ≤ k ∧ k ≤ 6 then 1 else 0)]) (h' := hC g z w a b) (d0 := 0) GX11_in kX11_chance_18 rfl rfl (Nat.le_of_ble_eq_true rfl) (Nat.le_of_ble_eq_true rfl) rfl trivial (e_in32 k 0 6) (Nat.le_of_ble_eq_true rfl) rfl (Nat.le_of_ble_eq_true rfl) (Nat.le_of_ble_eq_true rfl) rfl rfl ?_
    refine P0.b GX11_chance 1 (ob := []) (cf' := (if (if 0 ≤ k ∧ k ≤ 6 then 1 else 0) = 0 then 35 else 24, [some (.ref 0), some (.int seed), some (.int n), some (.int k), some (.int part), none, none, none, none, none, none, none, none], [], hC g z w a b)) rfl trivial ?_
    refine P0.ifB (fun h2 => ?_) (fun h2 => ?_)
    · refine P0.b GX11_chance 1 (ob := []) (cf' := (38, [some (.ref 0), some (.int seed), some (.int n), some (.int k), some (.int part), none, none, none, none, none, none, none, none], [.long (-4611686018427387904)], hC g z w a b)) rfl trivial ?_
      exact P0.rl (by decide +kernel) rfl ⟨rfl, rfl⟩
    · refine P0.b GX11_chance 4 (ob := []) (cf' := (29, [some (.ref 0), some (.int seed), some (.int n), some (.int k), some (.int part), none, none, none, none, none, none, none, none], [.long 1, .long 0, .long part.toInt64], hC g z w a b)) rfl trivial ?_
      refine P0.cr (io := []) (as := [.long part.toInt64, .long ((0 : Int32).toInt64), .long ((1 : Int32).toInt64)]) (rest := []) (hc := []) (hc1 := []) (r1 := some (.int (if 0 ≤ part ∧ part ≤ 1 then 1 else 0))) (st' := [.int (if 0 ≤ part ∧ part ≤ 1 then 1 else 0)]) (h' := hC g z w a b) (d0 := 0) GX11_in kX11_chance_29 rfl rfl (Nat.le_of_ble_eq_true rfl) (Nat.le_of_ble_eq_true rfl) rfl trivial (e_in32 part 0 1) (Nat.le_of_ble_eq_true rfl) rfl (Nat.le_of_ble_eq_true rfl) (Nat.le_of_ble_eq_true rfl) rfl rfl ?_
      refine P0.b GX11_chance 1 (ob := []) (cf' := (if (if 0 ≤ part ∧ part ≤ 1 then 1 else 0) = 0 then 35 else 39, [some (.ref 0), some (.int seed), some (.int n), some (.int k), some (.int part), none, none, none, none, none, none, none, none], [], hC g z w a b)) rfl trivial ?_
      rw [if_neg (show ¬ (0 ≤ part ∧ part ≤ 1) from fun z => h ⟨h1, h2, z⟩), if_pos rfl]
      refine P0.b GX11_chance 1 (ob := []) (cf' := (38, [some (.ref 0), some (.int seed), some (.int n), some (.int k), some (.int part), none, none, none, none, none, none, none, none], [.long (-4611686018427387904)], hC g z w a b)) rfl trivial ?_
      exact P0.rl (by decide +kernel) rfl ⟨rfl, rfl⟩
set_option maxHeartbeats 1000000 in
theorem chance_ok {g z : Nat → Int32} {w : Int64} {a b : Nat → Nat → Int32} {t m : Nat} (hr : g 4 = nI t) (hS : Std1 a t) (hm : g 11 = nI m) (hm6 : m ≤ 6) (hW : ∀ i, i < m → WOK a (nI i)) {N : Nat} (h1 : 1 ≤ N) (h20 : N ≤ 20) (seed k part : Int32) (hk : 0 ≤ k ∧ k ≤ 6) (hp : 0 ≤ part ∧ part ≤ 1) : P0 47 0 0 mX11_chance (0, ent 13 [.ref 0, .int seed, .int (nI N), .int k, .int part], [], hC g z w a b) (fun r h' => ∃ z' w' b', r = some (.long (if part = 0 then lN (chN a t (g 7) m seed k N / Nat.gcd (chN a t (g 7) m seed k N) N) else lN (N / Nat.gcd (chN a t (g 7) m seed k N) N))) ∧ h' = hC g z' w' a b') := by
  refine P0.b GX11_chance 4 (ob := []) (cf' := (6, [some (.ref 0), some (.int seed), some (.int (nI N)), some (.int k), some (.int part), none, none, none, none, none, none, none, none], [.long 20, .long 1, .long ((nI N).toInt64)], hC g z w a b)) rfl trivial ?_
  refine P0.cr (io := []) (as := [.long ((nI N).toInt64), .long ((1 : Int32).toInt64), .long ((20 : Int32).toInt64)]) (rest := []) (hc := []) (hc1 := []) (r1 := some (.int (if 1 ≤ nI N ∧ nI N ≤ 20 then 1 else 0))) (st' := [.int (if 1 ≤ nI N ∧ nI N ≤ 20 then 1 else 0)]) (h' := hC g z w a b) (d0 := 0) GX11_in kX11_chance_6 rfl rfl (Nat.le_of_ble_eq_true rfl) (Nat.le_of_ble_eq_true rfl) rfl trivial (e_in32 (nI N) 1 20) (Nat.le_of_ble_eq_true rfl) rfl (Nat.le_of_ble_eq_true rfl) (Nat.le_of_ble_eq_true rfl) rfl rfl ?_
  refine P0.b GX11_chance 1 (ob := []) (cf' := (if (if 1 ≤ nI N ∧ nI N ≤ 20 then 1 else 0) = 0 then 35 else 12, [some (.ref 0), some (.int seed), some (.int (nI N)), some (.int k), some (.int part), none, none, none, none, none, none, none, none], [], hC g z w a b)) rfl trivial ?_
  rw [if_pos (show 1 ≤ nI N ∧ nI N ≤ 20 from ⟨nI_le (a := 1) h1 (by omega), nI_le (b := 20) h20 (by decide)⟩), if_neg (by decide)]
  refine P0.b GX11_chance 4 (ob := []) (cf' := (18, [some (.ref 0), some (.int seed), some (.int (nI N)), some (.int k), some (.int part), none, none, none, none, none, none, none, none], [.long 6, .long 0, .long k.toInt64], hC g z w a b)) rfl trivial ?_
  refine P0.cr (io := []) (as := [.long k.toInt64, .long ((0 : Int32).toInt64), .long ((6 : Int32).toInt64)]) (rest := []) (hc := []) (hc1 := []) (r1 := some (.int (if 0 ≤ k ∧ k ≤ 6 then 1 else 0))) (st' := [.int (if 0 ≤ k ∧ k ≤ 6 then 1 else 0)]) (h' := hC g z w a b) (d0 := 0) GX11_in kX11_chance_18 rfl rfl (Nat.le_of_ble_eq_true rfl) (Nat.le_of_ble_eq_true rfl) rfl trivial (e_in32 k 0 6) (Nat.le_of_ble_eq_true rfl) rfl (Nat.le_of_ble_eq_true rfl) (Nat.le_of_ble_eq_true rfl) rfl rfl ?_
  refine P0.b GX11_chance 1 (ob := []) (cf' := (if (if 0 ≤ k ∧ k ≤ 6 then 1 else 0) = 0 then 35 else 24, [some (.ref 0), some (.int seed), some (.int (nI N)), some (.int k), some (.int part), none, none, none, none, none, none, none, none], [], hC g z w a b)) rfl trivial ?_
  rw [if_pos (show 0 ≤ k ∧ k ≤ 6 from hk), if_neg (by decide)]
  refine P0.b GX11_chance 4 (ob := []) (cf' := (29, [some (.ref 0), some (.int seed), some (.int (nI N)), some (.int k), some (.int part), none, none, none, none, none, none, none, none], [.long 1, .long 0, .long part.toInt64], hC g z w a b)) rfl trivial ?_
  refine P0.cr (io := []) (as := [.long part.toInt64, .long ((0 : Int32).toInt64), .long ((1 : Int32).toInt64)]) (rest := []) (hc := []) (hc1 := []) (r1 := some (.int (if 0 ≤ part ∧ part ≤ 1 then 1 else 0))) (st' := [.int (if 0 ≤ part ∧ part ≤ 1 then 1 else 0)]) (h' := hC g z w a b) (d0 := 0) GX11_in kX11_chance_29 rfl rfl (Nat.le_of_ble_eq_true rfl) (Nat.le_of_ble_eq_true rfl) rfl trivial (e_in32 part 0 1) (Nat.le_of_ble_eq_true rfl) rfl (Nat.le_of_ble_eq_true rfl) (Nat.le_of_ble_eq_true rfl) rfl rfl ?_
  refine P0.b GX11_chance 1 (ob := []) (cf' := (if (if 0 ≤ part ∧ part ≤ 1 then 1 else 0) = 0 then 35 else 39, [some (.ref 0), some (.int seed), some (.int (nI N)), some (.int k), some (.int part), none, none, none, none, none, none, none, none], [], hC g z w a b)) rfl trivial ?_
  rw [if_pos (show 0 ≤ part ∧ part ≤ 1 from hp), if_neg (by decide)]
  refine P0.b GX11_chance 4 (ob := []) (cf' := (45, [some (.ref 0), some (.int seed), some (.int (nI N)), some (.int k), some (.int part), some (.long 0), none, some (.int 0), none, none, none, none, none], [], hC g z w a b)) rfl trivial ?_
  refine P0.loopIZ (N := N) (fun i (v : Int64 × (Nat → Nat → Int32)) => v.1 = lN (chN a t (g 7) m seed k i) ∧ True) (fun x101 v101 z101 w101 => (45, [some (.ref 0), some (.int seed), some (.int (nI N)), some (.int k), some (.int part), some (.long v101.1), none, some (.int x101), none, none, none, none, none], [], hC g z101 w101 a v101.2)) (fun i101 v101 hi101 z101 w101 hI101 hk101 => ?_) (fun v101 z101 w101 hI101 => ?_) 0 ((0 : Int64), b) z w nI_0.symm (⟨rfl, trivial⟩)
  · show P0 _ _ _ _ (45, [some (.ref 0), some (.int seed), some (.int (nI N)), some (.int k), some (.int part), some (.long v101.1), none, some (.int (nI i101)), none, none, none, none, none], [], hC g z101 w101 a v101.2) _
    refine P0.b GX11_chance 3 (ob := []) (cf' := (if nI N ≤ nI i101 then 90 else 51, [some (.ref 0), some (.int seed), some (.int (nI N)), some (.int k), some (.int part), some (.long v101.1), none, some (.int (nI i101)), none, none, none, none, none], [], hC g z101 w101 a v101.2)) rfl trivial ?_
    rw [if_neg (show ¬ (nI N ≤ nI i101) from nI_ge hi101 (by omega))]
    refine P0.b GX11_chance 4 (ob := []) (cf' := (56, [some (.ref 0), some (.int seed), some (.int (nI N)), some (.int k), some (.int part), some (.long v101.1), none, some (.int (nI i101)), none, none, none, none, none], [.int (seed + (nI i101)), .ref 0], hC g z101 w101 a v101.2)) rfl trivial ?_
    refine P0.cs (as := [.ref 0, .int (seed + (nI i101))]) (rest := []) GX11_draws kX11_chance_56 rfl ⟨_, _, rfl, rfl, .inl ⟨_, _, _, _, rfl, rfl⟩⟩ (Nat.le_of_ble_eq_true rfl) (Nat.le_of_ble_eq_true rfl) (P0.mono (e_draws hr hS hm hm6 hW (seed + (nI i101))) (Nat.le_of_ble_eq_true rfl) (Nat.zero_le _) (Nat.zero_le _) (fun _ _ q => q)) (Nat.le_of_ble_eq_true rfl) (fun _ _ ⟨_, _, _, _, _, _, q⟩ => q ▸ rfl) ?_
    rintro _ _ ⟨z102, w102, T, R, hR, rfl, rfl⟩
    obtain ⟨K, hK⟩ : ∃ K, K = cpN (a 4) (v101.2 11) 6 := ⟨_, rfl⟩
    obtain ⟨D, hD⟩ : ∃ D, D = cpN (drD (seed + (nI i101))) (a 4) 6 := ⟨_, rfl⟩
    rw [← hD, ← hK]
    rw [← hD] at hR
    show P0 _ _ _ _ (59, [some (.ref 0), some (.int seed), some (.int (nI N)), some (.int k), some (.int part), some (.long v101.1), none, some (.int (nI i101)), none, none, none, none, none], [], hC g z102 w102 (up2 a 4 D) (up2 (up2 (up2 v101.2 11 K) 7 T) 8 R)) _
    refine P0.b GX11_chance 2 (ob := []) (cf' := (62, [some (.ref 0), some (.int seed), some (.int (nI N)), some (.int k), some (.int part), some (.long v101.1), none, some (.int (nI i101)), none, none, none, none, none], [.ref 0, .long v101.1], hC g z102 w102 (up2 a 4 D) (up2 (up2 (up2 v101.2 11 K) 7 T) 8 R))) rfl trivial ?_
    refine P0.cd (d0 := 2) (as := [.ref 0]) (rest := [.long v101.1]) (r1 := some (.int (sureV R (sentV (a 6) m)))) (h1 := hC g z102 w102 (up2 a 4 D) (up2 (up2 (up2 v101.2 11 K) 7 T) 8 R)) (st' := [.int (sureV R (sentV (a 6) m)), .long v101.1]) GX11_sure kX11_chance_62 rfl ⟨_, _, rfl, rfl, .inl ⟨_, _, _, _, rfl, rfl⟩⟩ (Nat.le_of_ble_eq_true rfl) (Nat.le_of_ble_eq_true rfl) (e_sure2 hm hm6 up2_s ((up2_n (by decide)).trans rfl)) (Nat.le_of_ble_eq_true rfl) rfl (Nat.le_of_ble_eq_true rfl) rfl ?_
    refine P0.cr (io := []) (as := [.int (sureV R (sentV (a 6) m))]) (rest := [.long v101.1]) (hc := []) (hc1 := []) (r1 := some (.int (kb 7 (sureV R (sentV (a 6) m))))) (st' := [.int (kb 7 (sureV R (sentV (a 6) m))), .long v101.1]) (h' := hC g z102 w102 (up2 a 4 D) (up2 (up2 (up2 v101.2 11 K) 7 T) 8 R)) (d0 := 0) GX11_bitsOf kX11_chance_65 rfl rfl (Nat.le_of_ble_eq_true rfl) (Nat.le_of_ble_eq_true rfl) rfl trivial (e_X11_bitsOf (sureV_zz _ _)) (Nat.zero_le _) rfl (Nat.le_of_ble_eq_true rfl) (Nat.le_of_ble_eq_true rfl) rfl rfl ?_
    refine P0.b GX11_chance 2 (ob := []) (cf' := (if kb 7 (sureV R (sentV (a 6) m)) < k then 76 else 72, [some (.ref 0), some (.int seed), some (.int (nI N)), some (.int k), some (.int part), some (.long v101.1), none, some (.int (nI i101)), none, none, none, none, none], [.long v101.1], hC g z102 w102 (up2 a 4 D) (up2 (up2 (up2 v101.2 11 K) 7 T) 8 R))) rfl trivial ?_
    refine P0.if (fun h1 => ?_) (fun h1 => ?_)
    · refine P0.b GX11_chance 4 (ob := []) (cf' := (81, [some (.ref 0), some (.int seed), some (.int (nI N)), some (.int k), some (.int part), some (.long (v101.1 + 0)), none, some (.int (nI i101)), none, none, none, none, none], [.ref 0], hC g z102 w102 (up2 a 4 D) (up2 (up2 (up2 v101.2 11 K) 7 T) 8 R))) rfl trivial ?_
      refine P0.cd (d0 := 0) (as := [.ref 0]) (rest := []) (r1 := none) (h1 := hC g z102 w102 a (up2 (up2 (up2 v101.2 11 K) 7 T) 8 R)) (st' := []) GX11_laysBack kX11_chance_81 rfl ⟨_, _, rfl, rfl, .inl ⟨_, _, _, _, rfl, rfl⟩⟩ (Nat.le_of_ble_eq_true rfl) (Nat.le_of_ble_eq_true rfl) (e_laysBack ((up2_n (by decide)).trans ((up2_n (by decide)).trans up2_s)) hK hD) (Nat.le_of_ble_eq_true rfl) rfl (Nat.le_of_ble_eq_true rfl) rfl ?_
      refine P0.b GX11_chance 2 (ob := []) (cf' := (45, [some (.ref 0), some (.int seed), some (.int (nI N)), some (.int k), some (.int part), some (.long (v101.1 + 0)), none, some (.int ((nI i101) + 1)), none, none, none, none, none], [], hC g z102 w102 a (up2 (up2 (up2 v101.2 11 K) 7 T) 8 R))) rfl trivial ?_
      exact hk101 _ (v101.1 + 0, (up2 (up2 (up2 v101.2 11 K) 7 T) 8 R)) z102 w102 (nI_1 _) (⟨by rw [hI101.1]; exact chN_y (by rw [hR, hD, sure0 hm6]) h1, trivial⟩)
    · refine P0.b GX11_chance 5 (ob := []) (cf' := (81, [some (.ref 0), some (.int seed), some (.int (nI N)), some (.int k), some (.int part), some (.long (v101.1 + 1)), none, some (.int (nI i101)), none, none, none, none, none], [.ref 0], hC g z102 w102 (up2 a 4 D) (up2 (up2 (up2 v101.2 11 K) 7 T) 8 R))) rfl trivial ?_
      refine P0.cd (d0 := 0) (as := [.ref 0]) (rest := []) (r1 := none) (h1 := hC g z102 w102 a (up2 (up2 (up2 v101.2 11 K) 7 T) 8 R)) (st' := []) GX11_laysBack kX11_chance_81 rfl ⟨_, _, rfl, rfl, .inl ⟨_, _, _, _, rfl, rfl⟩⟩ (Nat.le_of_ble_eq_true rfl) (Nat.le_of_ble_eq_true rfl) (e_laysBack ((up2_n (by decide)).trans ((up2_n (by decide)).trans up2_s)) hK hD) (Nat.le_of_ble_eq_true rfl) rfl (Nat.le_of_ble_eq_true rfl) rfl ?_
      refine P0.b GX11_chance 2 (ob := []) (cf' := (45, [some (.ref 0), some (.int seed), some (.int (nI N)), some (.int k), some (.int part), some (.long (v101.1 + 1)), none, some (.int ((nI i101) + 1)), none, none, none, none, none], [], hC g z102 w102 a (up2 (up2 (up2 v101.2 11 K) 7 T) 8 R))) rfl trivial ?_
      exact hk101 _ (v101.1 + 1, (up2 (up2 (up2 v101.2 11 K) 7 T) 8 R)) z102 w102 (nI_1 _) (⟨by rw [hI101.1]; exact chN_n (by rw [hR, hD, sure0 hm6]) h1, trivial⟩)
  · show P0 _ _ _ _ (45, [some (.ref 0), some (.int seed), some (.int (nI N)), some (.int k), some (.int part), some (.long v101.1), none, some (.int (nI N)), none, none, none, none, none], [], hC g z101 w101 a v101.2) _
    refine P0.b GX11_chance 3 (ob := []) (cf' := (if nI N ≤ nI N then 90 else 51, [some (.ref 0), some (.int seed), some (.int (nI N)), some (.int k), some (.int part), some (.long v101.1), none, some (.int (nI N)), none, none, none, none, none], [], hC g z101 w101 a v101.2)) rfl trivial ?_
    rw [if_pos (show nI N ≤ nI N from Int32.le_refl _)]
    refine P0.b GX11_chance 5 (ob := []) (cf' := (98, [some (.ref 0), some (.int seed), some (.int (nI N)), some (.int k), some (.int part), some (.long v101.1), none, some (.long v101.1), none, some (.long ((nI N).toInt64)), none, none, none], [], hC g z101 w101 a v101.2)) rfl trivial ?_
    have hA := chN_le a t (g 7) m seed k N
    obtain ⟨A, hAe⟩ : ∃ A, A = chN a t (g 7) m seed k N := ⟨_, rfl⟩
    rw [← hAe] at hA ⊢
    rw [hI101.1, ← hAe, nI_l (by omega)]
    refine P0.forget (ls' := [some (.ref 0), some (.int seed), some (.int (nI N)), some (.int k), some (.int part), some (.long (lN A)), none, some (.long (lN A)), none, some (.long (lN N)), none, none, none]) ⟨.inr rfl, .inr rfl, .inr rfl, .inr rfl, .inr rfl, .inr rfl, .inr rfl, .inr rfl, .inr rfl, .inr rfl, .inr rfl, .inr rfl, .inr rfl, trivial⟩ ?_
    exact P0.mono (lp_gcd h1 h20 hA (N + 1) A N (Nat.lt_succ_self N) (by omega) (by omega) (Nat.gcd_pos_of_pos_right A (by omega))) (Nat.zero_le _) (Nat.zero_le _) (Nat.zero_le _) (fun r h' q => ⟨_, _, _, q.1, q.2⟩)
