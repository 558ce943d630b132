/-! ===== laid by program (wip/tools) ===== -/
/-- what is said ahead, what one says of a step, what one costs, by the class's numbers -/
def lstV (f : Nat → Int32) (s : Nat) : Int32 := if s = 0 then 0 else f (s - 1)
theorem lst_0 {f : Nat → Int32} {s : Nat} (h : nI s ≤ 0) (hs : s < 6) : (0 : Int32) = lstV f s := by
  have : s = 0 := by
    rcases Nat.eq_zero_or_pos s with h0 | h0
    · exact h0
    · exact absurd h (nI_nle h0 (by omega))
  subst this; rfl
theorem lst_n {f : Nat → Int32} {s : Nat} (h : ¬ nI s ≤ 0) : f (s - 1) = lstV f s := by
  unfold lstV
  rw [if_neg]
  intro z; exact h (by rw [z]; decide)
theorem lst_p {s : Nat} (h : ¬ nI s ≤ 0) : 0 < s := Nat.pos_of_ne_zero (fun z => h (by rw [z]; decide))
def cSay (V : (Nat → Int32) → Int32 → Int32) (q : Nat → Nat → Int32) (f : Nat → Int32) (age : Int32) (x s : Nat) : Int32 := sayK (q x 1) (q x 2) (q x 3) (nI s) (f s) (cut 0 (V (ev (f s) (nI s) (q x 2) (lstV f s) (kb 7 (q x 3)) (age + nI s)) 0))
def cPrc (V : (Nat → Int32) → Int32 → Int32) (q : Nat → Nat → Int32) (age : Int32) (x : Nat) : Int32 := prcK (q x 1) (q x 2) (cut 1 (V (ev 0 0 (q x 2) 0 (kb 7 (q x 3)) age) 1))
def sbF (q : Nat → Nat → Int32) : Nat → Int32 → Int32 := fun x s => if q x 4 = 1 then s ||| (1 <<< (nI x &&& 31)) else s
def sbV (q : Nat → Nat → Int32) (m : Nat) : Int32 := it (sbF q) m 0
theorem sb_y {q : Nat → Nat → Int32} {i : Nat} (h : q i 4 = 1) : it (sbF q) i 0 ||| (1 <<< (nI i &&& 31)) = it (sbF q) (i + 1) 0 := (if_pos h).symm
theorem sb_n {q : Nat → Nat → Int32} {i : Nat} (h : ¬ q i 4 = 1) : it (sbF q) i 0 = it (sbF q) (i + 1) 0 := (if_neg h).symm
theorem hi5 {s : Int32} (h : 6 ≤ s) : ¬ s ≤ 5 := fun z => absurd (Int32.le_trans h z) (by decide)
theorem lo5 {s : Int32} (h : ¬ 6 ≤ s) : s ≤ 5 := by
  have h := Int32.not_le.mp h
  rw [Int32.lt_iff_toInt_lt] at h
  rw [Int32.le_iff_toInt_le]
  have e6 : (6 : Int32).toInt = 6 := by decide
  have e5 : (5 : Int32).toInt = 5 := by decide
  omega
set_option maxHeartbeats 1000000 in
theorem within_n (n hi : Int32) : P0 0 0 0 mX10_isWithin (0, ent 2 [.int n, .int hi], [], []) (fun r h' => r = some (.int (if 0 ≤ n ∧ n ≤ hi then 1 else 0)) ∧ h' = []) := by
  refine P0.b GX10_isWithin 2 (ob := []) (cf' := (if n < 0 then 13 else 4, [some (.int n), some (.int hi)], [], [])) rfl trivial ?_
  refine P0.if (fun h1 => ?_) (fun h1 => ?_)
  · refine P0.b GX10_isWithin 1 (ob := []) (cf' := (14, [some (.int n), some (.int hi)], [.int 0], [])) rfl trivial ?_
    exact P0.ri (by decide +kernel) rfl (by rfl) ⟨by rw [if_neg (fun z => absurd z.1 (Int32.not_le.mpr h1))], rfl⟩
  · refine P0.b GX10_isWithin 3 (ob := []) (cf' := (if hi < n then 13 else 9, [some (.int n), some (.int hi)], [], [])) rfl trivial ?_
    refine P0.if (fun h2 => ?_) (fun h2 => ?_)
    · refine P0.b GX10_isWithin 1 (ob := []) (cf' := (14, [some (.int n), some (.int hi)], [.int 0], [])) rfl trivial ?_
      exact P0.ri (by decide +kernel) rfl (by rfl) ⟨by rw [if_neg (fun z => absurd z.2 (Int32.not_le.mpr h2))], rfl⟩
    · refine P0.b GX10_isWithin 2 (ob := []) (cf' := (14, [some (.int n), some (.int hi)], [.int 1], [])) rfl trivial ?_
      exact P0.ri (by decide +kernel) rfl (by rfl) ⟨by rw [if_pos ⟨Int32.not_lt.mp h1, Int32.not_lt.mp h2⟩], rfl⟩
set_option maxHeartbeats 1000000 in
theorem isStep_n (n : Int32) : P0 0 0 0 mX10_isStep (0, ent 1 [.int n], [], []) (fun r h' => r = some (.int (if 0 ≤ n ∧ n ≤ 5 then 1 else 0)) ∧ h' = []) := by
  refine P0.b GX10_isStep 2 (ob := []) (cf' := (if n < 0 then 14 else 4, [some (.int n)], [], [])) rfl trivial ?_
  refine P0.if (fun h1 => ?_) (fun h1 => ?_)
  · refine P0.b GX10_isStep 1 (ob := []) (cf' := (15, [some (.int n)], [.int 0], [])) rfl trivial ?_
    exact P0.ri (by decide +kernel) rfl (by rfl) ⟨by rw [if_neg (fun z => absurd z.1 (Int32.not_le.mpr h1))], rfl⟩
  · refine P0.b GX10_isStep 3 (ob := []) (cf' := (if 6 ≤ n then 14 else 10, [some (.int n)], [], [])) rfl trivial ?_
    refine P0.if (fun h2 => ?_) (fun h2 => ?_)
    · refine P0.b GX10_isStep 1 (ob := []) (cf' := (15, [some (.int n)], [.int 0], [])) rfl trivial ?_
      exact P0.ri (by decide +kernel) rfl (by rfl) ⟨by rw [if_neg (fun z => absurd z.2 (hi5 h2))], rfl⟩
    · refine P0.b GX10_isStep 2 (ob := []) (cf' := (15, [some (.int n)], [.int 1], [])) rfl trivial ?_
      exact P0.ri (by decide +kernel) rfl (by rfl) ⟨by rw [if_pos ⟨Int32.not_lt.mp h1, lo5 h2⟩], rfl⟩
set_option maxHeartbeats 1000000 in
theorem witAt_ok {g z : Nat → Int32} {a q u v b c y : Nat → Nat → Int32} {t tc : Nat} {TX : PH} {m : Nat} (hm : g 1 = nI m) (hm6 : m ≤ 6) {x : Nat} (hx : x < m) : P0 0 0 0 mX10_witnessAt (0, ent 2 [.ref 0, .int (nI x)], [], hX g a q u v z b c y t tc TX) (fun r h' => r = some (.ref (26 + 2 * x)) ∧ h' = hX g a q u v z b c y t tc TX) := by
  refine P0.b GX10_witnessAt 2 (ob := []) (cf' := (if nI x < 0 then 30 else 4, [some (.ref 0), some (.int (nI x))], [], hX g a q u v z b c y t tc TX)) rfl trivial ?_
  rw [if_neg (show ¬ (nI x < 0) from nI_pos (by omega))]
  refine P0.b GX10_witnessAt 4 (ob := []) (cf' := (if g 1 ≤ nI x then 30 else 12, [some (.ref 0), some (.int (nI x))], [], hX g a q u v z b c y t tc TX)) rfl trivial ?_
  rw [show g 1 = nI m from hm]
  rw [if_neg (show ¬ (nI m ≤ nI x) from nI_ge (by omega) (by omega))]
  refine P0.b GX10_witnessAt 5 (ob := []) (cf' := (if 6 ≤ nI x then 30 else 21, [some (.ref 0), some (.int (nI x))], [], hX g a q u v z b c y t tc TX)) rfl trivial ?_
  rw [if_neg (show ¬ (6 ≤ nI x) from nI_ge (b := 6) (by omega) (by decide))]
  refine P0.b GX10_witnessAt 3 (ob := []) (cf' := (26, [some (.ref 0), some (.int (nI x))], [.int (nI x), .ref 3], hX g a q u v z b c y t tc TX)) rfl trivial ?_
  refine P0.b GX10_witnessAt 1 (ob := [vp_in (nI x) 6]) (cf' := (27, [some (.ref 0), some (.int (nI x))], [va_rf (Wk (nI x).toNatClampNeg)], hX g a q u v z b c y t tc TX)) rfl ⟨(nI_vp (by omega) (by decide)), trivial⟩ ?_
  rw [show (nI x).toNatClampNeg = x from nI_clamp (by omega)]
  rw [show va_rf (Wk x) = .ref (26 + 2 * x) from wk_at (by omega)]
  refine P0.b GX10_witnessAt 1 (ob := []) (cf' := (31, [some (.ref 0), some (.int (nI x))], [.ref (26 + 2 * x)], hX g a q u v z b c y t tc TX)) rfl trivial ?_
  exact P0.ra (by decide +kernel) rfl (.inl ⟨_, rfl⟩) (.inr ⟨_, rfl⟩) ⟨rfl, rfl⟩
set_option maxHeartbeats 1000000 in
theorem witAt_no {g z : Nat → Int32} {a q u v b c y : Nat → Nat → Int32} {t tc : Nat} {TX : PH} {i : Int32} (h : ¬ (0 ≤ i ∧ i < g 1)) : P0 0 0 0 mX10_witnessAt (0, ent 2 [.ref 0, .int i], [], hX g a q u v z b c y t tc TX) (fun r h' => r = some .null ∧ h' = hX g a q u v z b c y t tc TX) := by
  refine P0.b GX10_witnessAt 2 (ob := []) (cf' := (if i < 0 then 30 else 4, [some (.ref 0), some (.int i)], [], hX g a q u v z b c y t tc TX)) rfl trivial ?_
  refine P0.if (fun h1 => ?_) (fun h1 => ?_)
  · refine P0.b GX10_witnessAt 1 (ob := []) (cf' := (31, [some (.ref 0), some (.int i)], [.null], hX g a q u v z b c y t tc TX)) rfl trivial ?_
    exact P0.ra (by decide +kernel) rfl (.inl ⟨_, rfl⟩) (.inl rfl) ⟨rfl, rfl⟩
  · refine P0.b GX10_witnessAt 4 (ob := []) (cf' := (if g 1 ≤ i then 30 else 12, [some (.ref 0), some (.int i)], [], hX g a q u v z b c y t tc TX)) rfl trivial ?_
    rw [if_pos (show g 1 ≤ i from Int32.not_lt.mp (fun z => h ⟨Int32.not_lt.mp h1, z⟩))]
    refine P0.b GX10_witnessAt 1 (ob := []) (cf' := (31, [some (.ref 0), some (.int i)], [.null], hX g a q u v z b c y t tc TX)) rfl trivial ?_
    exact P0.ra (by decide +kernel) rfl (.inl ⟨_, rfl⟩) (.inl rfl) ⟨rfl, rfl⟩
set_option maxHeartbeats 1000000 in
theorem txtAt_ok {g z : Nat → Int32} {a q u v b c y : Nat → Nat → Int32} {t tc : Nat} {TX : PH} (htc : g 2 = nI tc) (htc6 : tc ≤ 6) {x : Nat} (hx : x < tc) : P0 0 0 0 mX10_textAt (0, ent 2 [.ref 0, .int (nI x)], [], hX g a q u v z b c y t tc TX) (fun r h' => r = some (.ref (46 + 3 * x)) ∧ h' = hX g a q u v z b c y t tc TX) := by
  refine P0.b GX10_textAt 2 (ob := []) (cf' := (if nI x < 0 then 30 else 4, [some (.ref 0), some (.int (nI x))], [], hX g a q u v z b c y t tc TX)) rfl trivial ?_
  rw [if_neg (show ¬ (nI x < 0) from nI_pos (by omega))]
  refine P0.b GX10_textAt 4 (ob := []) (cf' := (if g 2 ≤ nI x then 30 else 12, [some (.ref 0), some (.int (nI x))], [], hX g a q u v z b c y t tc TX)) rfl trivial ?_
  rw [show g 2 = nI tc from htc]
  rw [if_neg (show ¬ (nI tc ≤ nI x) from nI_ge (by omega) (by omega))]
  refine P0.b GX10_textAt 5 (ob := []) (cf' := (if 6 ≤ nI x then 30 else 21, [some (.ref 0), some (.int (nI x))], [], hX g a q u v z b c y t tc TX)) rfl trivial ?_
  rw [if_neg (show ¬ (6 ≤ nI x) from nI_ge (b := 6) (by omega) (by decide))]
  refine P0.b GX10_textAt 3 (ob := []) (cf' := (26, [some (.ref 0), some (.int (nI x))], [.int (nI x), .ref 4], hX g a q u v z b c y t tc TX)) rfl trivial ?_
  refine P0.b GX10_textAt 1 (ob := [vp_in (nI x) 6]) (cf' := (27, [some (.ref 0), some (.int (nI x))], [va_rf ((Wt tc) (nI x).toNatClampNeg)], hX g a q u v z b c y t tc TX)) rfl ⟨(nI_vp (by omega) (by decide)), trivial⟩ ?_
  rw [show (nI x).toNatClampNeg = x from nI_clamp (by omega)]
  rw [show va_rf ((Wt tc) x) = .ref (46 + 3 * x) from wt_at (by omega)]
  refine P0.b GX10_textAt 1 (ob := []) (cf' := (31, [some (.ref 0), some (.int (nI x))], [.ref (46 + 3 * x)], hX g a q u v z b c y t tc TX)) rfl trivial ?_
  exact P0.ra (by decide +kernel) rfl (.inl ⟨_, rfl⟩) (.inr ⟨_, rfl⟩) ⟨rfl, rfl⟩
set_option maxHeartbeats 1000000 in
theorem txtAt_no {g z : Nat → Int32} {a q u v b c y : Nat → Nat → Int32} {t tc : Nat} {TX : PH} {i : Int32} (h : ¬ (0 ≤ i ∧ i < g 2)) : P0 0 0 0 mX10_textAt (0, ent 2 [.ref 0, .int i], [], hX g a q u v z b c y t tc TX) (fun r h' => r = some .null ∧ h' = hX g a q u v z b c y t tc TX) := by
  refine P0.b GX10_textAt 2 (ob := []) (cf' := (if i < 0 then 30 else 4, [some (.ref 0), some (.int i)], [], hX g a q u v z b c y t tc TX)) rfl trivial ?_
  refine P0.if (fun h1 => ?_) (fun h1 => ?_)
  · refine P0.b GX10_textAt 1 (ob := []) (cf' := (31, [some (.ref 0), some (.int i)], [.null], hX g a q u v z b c y t tc TX)) rfl trivial ?_
    exact P0.ra (by decide +kernel) rfl (.inl ⟨_, rfl⟩) (.inl rfl) ⟨rfl, rfl⟩
  · refine P0.b GX10_textAt 4 (ob := []) (cf' := (if g 2 ≤ i then 30 else 12, [some (.ref 0), some (.int i)], [], hX g a q u v z b c y t tc TX)) rfl trivial ?_
    rw [if_pos (show g 2 ≤ i from Int32.not_lt.mp (fun z => h ⟨Int32.not_lt.mp h1, z⟩))]
    refine P0.b GX10_textAt 1 (ob := []) (cf' := (31, [some (.ref 0), some (.int i)], [.null], hX g a q u v z b c y t tc TX)) rfl trivial ?_
    exact P0.ra (by decide +kernel) rfl (.inl ⟨_, rfl⟩) (.inl rfl) ⟨rfl, rfl⟩
set_option maxHeartbeats 1000000 in
theorem shAt_ok {g z : Nat → Int32} {a q u v b c y : Nat → Nat → Int32} {t tc : Nat} {TX : PH} {x : Nat} (hx : x < 4) : P0 0 0 0 mX10_sheetAt (0, ent 2 [.ref 0, .int (nI x)], [], hX g a q u v z b c y t tc TX) (fun r h' => r = some (.ref (38 + 2 * x)) ∧ h' = hX g a q u v z b c y t tc TX) := by
  refine P0.b GX10_sheetAt 2 (ob := []) (cf' := (if nI x < 0 then 22 else 4, [some (.ref 0), some (.int (nI x))], [], hX g a q u v z b c y t tc TX)) rfl trivial ?_
  rw [if_neg (show ¬ (nI x < 0) from nI_pos (by omega))]
  refine P0.b GX10_sheetAt 5 (ob := []) (cf' := (if 4 ≤ nI x then 22 else 13, [some (.ref 0), some (.int (nI x))], [], hX g a q u v z b c y t tc TX)) rfl trivial ?_
  rw [if_neg (show ¬ (4 ≤ nI x) from nI_ge (b := 4) (by omega) (by decide))]
  refine P0.b GX10_sheetAt 3 (ob := []) (cf' := (18, [some (.ref 0), some (.int (nI x))], [.int (nI x), .ref 6], hX g a q u v z b c y t tc TX)) rfl trivial ?_
  refine P0.b GX10_sheetAt 1 (ob := [vp_in (nI x) 4]) (cf' := (19, [some (.ref 0), some (.int (nI x))], [va_rf (Wsh (nI x).toNatClampNeg)], hX g a q u v z b c y t tc TX)) rfl ⟨(nI_vp (by omega) (by decide)), trivial⟩ ?_
  rw [show (nI x).toNatClampNeg = x from nI_clamp (by omega)]
  rw [show va_rf (Wsh x) = .ref (38 + 2 * x) from wsh_at (by omega)]
  refine P0.b GX10_sheetAt 1 (ob := []) (cf' := (23, [some (.ref 0), some (.int (nI x))], [.ref (38 + 2 * x)], hX g a q u v z b c y t tc TX)) rfl trivial ?_
  exact P0.ra (by decide +kernel) rfl (.inl ⟨_, rfl⟩) (.inr ⟨_, rfl⟩) ⟨rfl, rfl⟩
set_option maxHeartbeats 1000000 in
theorem shAt_no {g z : Nat → Int32} {a q u v b c y : Nat → Nat → Int32} {t tc : Nat} {TX : PH} {i : Int32} (h : ¬ (0 ≤ i ∧ i < 4)) : P0 0 0 0 mX10_sheetAt (0, ent 2 [.ref 0, .int i], [], hX g a q u v z b c y t tc TX) (fun r h' => r = some .null ∧ h' = hX g a q u v z b c y t tc TX) := by
  refine P0.b GX10_sheetAt 2 (ob := []) (cf' := (if i < 0 then 22 else 4, [some (.ref 0), some (.int i)], [], hX g a q u v z b c y t tc TX)) rfl trivial ?_
  refine P0.if (fun h1 => ?_) (fun h1 => ?_)
  · refine P0.b GX10_sheetAt 1 (ob := []) (cf' := (23, [some (.ref 0), some (.int i)], [.null], hX g a q u v z b c y t tc TX)) rfl trivial ?_
    exact P0.ra (by decide +kernel) rfl (.inl ⟨_, rfl⟩) (.inl rfl) ⟨rfl, rfl⟩
  · refine P0.b GX10_sheetAt 5 (ob := []) (cf' := (if 4 ≤ i then 22 else 13, [some (.ref 0), some (.int i)], [], hX g a q u v z b c y t tc TX)) rfl trivial ?_
    rw [if_pos (show 4 ≤ i from Int32.not_lt.mp (fun z => h ⟨Int32.not_lt.mp h1, z⟩))]
    refine P0.b GX10_sheetAt 1 (ob := []) (cf' := (23, [some (.ref 0), some (.int i)], [.null], hX g a q u v z b c y t tc TX)) rfl trivial ?_
    exact P0.ra (by decide +kernel) rfl (.inl ⟨_, rfl⟩) (.inl rfl) ⟨rfl, rfl⟩
set_option maxHeartbeats 1000000 in
theorem sentBits_n {g z : Nat → Int32} {a q u v b c y : Nat → Nat → Int32} {t tc : Nat} {TX : PH} (hO : TX.length ≤ 18) {m : Nat} (hm : g 1 = nI m) (hm6 : m ≤ 6) : P0 1 0 0 mX10_sentBits (0, ent 4 [.ref 0], [], hX g a q u v z b c y t tc TX) (fun r h' => r = some (.int (sbV q m)) ∧ h' = hX g a q u v z b c y t tc TX) := by
  refine P0.b GX10_sentBits 4 (ob := []) (cf' := (4, [some (.ref 0), some (.int 0), some (.int 0), none], [], hX g a q u v z b c y t tc TX)) rfl trivial ?_
  refine P0.loopI (N := m) (fun i v => v = it (sbF q) i 0) (fun x1 v1 => (4, [some (.ref 0), some (.int v1), some (.int x1), none], [], hX g a q u v z b c y t tc TX)) (fun i1 v1 hi1 hI1 hk1 => ?_) (fun v1 hI1 => ?_) 0 0 nI_0.symm rfl
  · show P0 _ _ _ _ (4, [some (.ref 0), some (.int v1), some (.int (nI i1)), none], [], hX g a q u v z b c y t tc TX) _
    refine P0.b GX10_sentBits 4 (ob := []) (cf' := (if g 1 ≤ nI i1 then 42 else 12, [some (.ref 0), some (.int v1), some (.int (nI i1)), none], [], hX g a q u v z b c y t tc TX)) rfl trivial ?_
    rw [show g 1 = nI m from hm]
    rw [if_neg (show ¬ (nI m ≤ nI i1) from nI_ge hi1 (by omega))]
    refine P0.b GX10_sentBits 2 (ob := []) (cf' := (14, [some (.ref 0), some (.int v1), some (.int (nI i1)), none], [.int (nI i1), .ref 0], hX g a q u v z b c y t tc TX)) rfl trivial ?_
    refine P0.cs (d := 0) (as := [.ref 0, .int (nI i1)]) (rest := []) GX10_witnessAt kX10_sentBits_14 rfl ⟨_, _, rfl, rfl, .inl ⟨_, _, _, _, rfl, rfl⟩⟩ (Nat.le_of_ble_eq_true rfl) (Nat.le_of_ble_eq_true rfl) (P0.mono (witAt_ok hm hm6 (x := i1) (by omega)) (Nat.le_of_ble_eq_true rfl) (Nat.zero_le _) (Nat.zero_le _) (fun _ _ q => q)) (hXl hO) (fun _ _ q => (congrArg List.length q.2).trans hX_lq) ?_
    rintro _ _ ⟨rfl, rfl⟩
    show P0 _ _ _ _ (17, [some (.ref 0), some (.int v1), some (.int (nI i1)), none], [.ref (26 + 2 * i1)], hX g a q u v z b c y t tc TX) _
    refine P0.b GX10_sentBits 4 (ob := []) (cf' := (23, [some (.ref 0), some (.int v1), some (.int (nI i1)), some (.ref (26 + 2 * i1))], [.ref (26 + 2 * i1)], hX g a q u v z b c y t tc TX)) rfl trivial ?_
    refine P0.gt GX10_sentBits rfl (hX_w (by omega)) rfl ?_
    refine P0.b GX10_sentBits 2 (ob := []) (cf' := (if q i1 4 = 1 then 30 else 36, [some (.ref 0), some (.int v1), some (.int (nI i1)), some (.ref (26 + 2 * i1))], [], hX g a q u v z b c y t tc TX)) rfl trivial ?_
    refine P0.if (fun h1 => ?_) (fun h1 => ?_)
    · refine P0.b GX10_sentBits 8 (ob := []) (cf' := (4, [some (.ref 0), some (.int (v1 ||| (1 <<< ((nI i1) &&& 31)))), some (.int ((nI i1) + 1)), some (.ref (26 + 2 * i1))], [], hX g a q u v z b c y t tc TX)) rfl trivial ?_
      rw [show (nI i1) + 1 = nI (i1 + 1) from nI_add _ _]
      refine P0.forget (ls' := [some (.ref 0), some (.int (v1 ||| (1 <<< ((nI i1) &&& 31)))), some (.int (nI (i1 + 1))), none]) ⟨.inr rfl, .inr rfl, .inr rfl, .inl rfl, trivial⟩ ?_
      exact hk1 _ (v1 ||| (1 <<< ((nI i1) &&& 31))) rfl (by rw [hI1]; exact sb_y h1)
    · refine P0.b GX10_sentBits 2 (ob := []) (cf' := (4, [some (.ref 0), some (.int v1), some (.int ((nI i1) + 1)), some (.ref (26 + 2 * i1))], [], hX g a q u v z b c y t tc TX)) rfl trivial ?_
      rw [show (nI i1) + 1 = nI (i1 + 1) from nI_add _ _]
      refine P0.forget (ls' := [some (.ref 0), some (.int v1), some (.int (nI (i1 + 1))), none]) ⟨.inr rfl, .inr rfl, .inr rfl, .inl rfl, trivial⟩ ?_
      exact hk1 _ v1 rfl (by rw [hI1]; exact sb_n h1)
  · show P0 _ _ _ _ (4, [some (.ref 0), some (.int v1), some (.int (nI m)), none], [], hX g a q u v z b c y t tc TX) _
    refine P0.b GX10_sentBits 4 (ob := []) (cf' := (if g 1 ≤ nI m then 42 else 12, [some (.ref 0), some (.int v1), some (.int (nI m)), none], [], hX g a q u v z b c y t tc TX)) rfl trivial ?_
    rw [show g 1 = nI m from hm]
    rw [if_pos (show nI m ≤ nI m from Int32.le_refl _)]
    refine P0.b GX10_sentBits 1 (ob := []) (cf' := (43, [some (.ref 0), some (.int v1), some (.int (nI m)), none], [.int v1], hX g a q u v z b c y t tc TX)) rfl trivial ?_
    exact P0.ri (by decide +kernel) rfl rfl ⟨(by rw [hI1]; rfl), rfl⟩
set_option maxHeartbeats 1000000 in
theorem nameStep_n {g z : Nat → Int32} {a q u v b c y : Nat → Nat → Int32} {t tc : Nat} {TX : PH} (hO : TX.length ≤ 18) {s : Nat} (hs : s < 6) : P0 1 0 0 mX10_nameStep (0, ent 2 [.ref 0, .int (nI s)], [], hX g a q u v z b c y t tc TX) (fun r h' => r = none ∧ h' = hX g a q u v (upd (upd (upd (upd z 3 (nI s)) 2 (a 1 s)) 5 (lstV (a 1) s)) 7 (g 0 + nI s)) b c y t tc TX) := by
  refine P0.b GX10_nameStep 6 (ob := []) (cf' := (10, [some (.ref 0), some (.int (nI s))], [.int (nI s), .ref 1, .int (nI s), .ref 12], hX g a q u v z b c y t tc TX)) rfl trivial ?_
  refine P0.cr (io := [1]) (as := [.ref 0, .int (nI s)]) (rest := [.int (nI s), .ref 12]) (hc := [pI 6 (a 1)]) (hc1 := [pI 6 (a 1)]) (r1 := some (.int ((a 1) s))) (st' := [.int ((a 1) s), .int (nI s), .ref 12]) (h' := hX g a q u v z b c y t tc TX) (d0 := 0) GX5_at kX10_nameStep_10 rfl rfl (Nat.le_of_ble_eq_true rfl) (Nat.le_of_ble_eq_true rfl) rfl ⟨rfl, trivial⟩ (at_in (n := 6) (by decide) (a 1) (k := s) (by omega)) (Nat.le_of_ble_eq_true rfl) rfl (Nat.le_of_ble_eq_true rfl) (hXl hO) rfl ((putL_f rfl).trans rfl) (?_)
  show P0 _ _ _ _ (13, [some (.ref 0), some (.int (nI s))], [.int ((a 1) s), .int (nI s), .ref 12], hX g a q u v z b c y t tc TX) _
  refine P0.b GX10_nameStep 2 (ob := []) (cf' := (if nI s ≤ 0 then 30 else 17, [some (.ref 0), some (.int (nI s))], [.int ((a 1) s), .int (nI s), .ref 12], hX g a q u v z b c y t tc TX)) rfl trivial ?_
  refine P0.if (fun h1 => ?_) (fun h1 => ?_)
  · refine P0.b GX10_nameStep 5 (ob := []) (cf' := (37, [some (.ref 0), some (.int (nI s))], [.int ((g 0) + (nI s)), .int 0, .int ((a 1) s), .int (nI s), .ref 12], hX g a q u v z b c y t tc TX)) rfl trivial ?_
    refine P0.cr (io := [12, 13]) (as := [.ref 0, .int (nI s), .int ((a 1) s), .int 0, .int ((g 0) + (nI s))]) (rest := []) (hc := [pO 2 [.ref 1, .int (z 2), .int (z 3), .int (z 4), .int (z 5), .int (z 6), .int (z 7)], pI 160 (b 13)]) (hc1 := [pO 2 [.ref 1, .int ((a 1) s), .int (nI s), .int (z 4), .int 0, .int (z 6), .int ((g 0) + (nI s))], pI 160 (b 13)]) (r1 := none) (st' := []) (h' := hX g a q u v (upd (upd (upd (upd z 3 (nI s)) 2 ((a 1) s)) 5 0) 7 ((g 0) + (nI s))) b c y t tc TX) (d0 := 0) GX3_ofStep kX10_nameStep_37 rfl ⟨_, _, rfl, rfl, .inl ⟨_, _, _, _, rfl, rfl⟩⟩ (Nat.le_of_ble_eq_true rfl) (Nat.le_of_ble_eq_true rfl) rfl ⟨rfl, rfl, trivial⟩ (ofStep_n (nI s) ((a 1) s) 0 ((g 0) + (nI s))) (Nat.le_of_ble_eq_true rfl) rfl (Nat.le_of_ble_eq_true rfl) (hXl hO) rfl ((putL_f rfl).trans rfl) (?_)
    show P0 _ _ _ _ (40, [some (.ref 0), some (.int (nI s))], [], hX g a q u v (upd (upd (upd (upd z 3 (nI s)) 2 ((a 1) s)) 5 0) 7 ((g 0) + (nI s))) b c y t tc TX) _
    exact P0.rv (by decide +kernel) rfl ⟨rfl, (by rw [← lst_0 (f := a 1) h1 (by omega)])⟩
  · refine P0.b GX10_nameStep 5 (ob := []) (cf' := (24, [some (.ref 0), some (.int (nI s))], [.int ((nI s) - 1), .ref 1, .int ((a 1) s), .int (nI s), .ref 12], hX g a q u v z b c y t tc TX)) rfl trivial ?_
    rw [show (nI s) - 1 = nI (s - 1) from one_nI h1]
    refine P0.cr (io := [1]) (as := [.ref 0, .int (nI (s - 1))]) (rest := [.int ((a 1) s), .int (nI s), .ref 12]) (hc := [pI 6 (a 1)]) (hc1 := [pI 6 (a 1)]) (r1 := some (.int ((a 1) (s - 1)))) (st' := [.int ((a 1) (s - 1)), .int ((a 1) s), .int (nI s), .ref 12]) (h' := hX g a q u v z b c y t tc TX) (d0 := 0) GX5_at kX10_nameStep_24 rfl rfl (Nat.le_of_ble_eq_true rfl) (Nat.le_of_ble_eq_true rfl) rfl ⟨rfl, trivial⟩ (at_in (n := 6) (by decide) (a 1) (k := (s - 1)) (by omega)) (Nat.le_of_ble_eq_true rfl) rfl (Nat.le_of_ble_eq_true rfl) (hXl hO) rfl ((putL_f rfl).trans rfl) (?_)
    show P0 _ _ _ _ (27, [some (.ref 0), some (.int (nI s))], [.int ((a 1) (s - 1)), .int ((a 1) s), .int (nI s), .ref 12], hX g a q u v z b c y t tc TX) _
    refine P0.b GX10_nameStep 5 (ob := []) (cf' := (37, [some (.ref 0), some (.int (nI s))], [.int ((g 0) + (nI s)), .int ((a 1) (s - 1)), .int ((a 1) s), .int (nI s), .ref 12], hX g a q u v z b c y t tc TX)) rfl trivial ?_
    refine P0.cr (io := [12, 13]) (as := [.ref 0, .int (nI s), .int ((a 1) s), .int ((a 1) (s - 1)), .int ((g 0) + (nI s))]) (rest := []) (hc := [pO 2 [.ref 1, .int (z 2), .int (z 3), .int (z 4), .int (z 5), .int (z 6), .int (z 7)], pI 160 (b 13)]) (hc1 := [pO 2 [.ref 1, .int ((a 1) s), .int (nI s), .int (z 4), .int ((a 1) (s - 1)), .int (z 6), .int ((g 0) + (nI s))], pI 160 (b 13)]) (r1 := none) (st' := []) (h' := hX g a q u v (upd (upd (upd (upd z 3 (nI s)) 2 ((a 1) s)) 5 ((a 1) (s - 1))) 7 ((g 0) + (nI s))) b c y t tc TX) (d0 := 0) GX3_ofStep kX10_nameStep_37 rfl ⟨_, _, rfl, rfl, .inl ⟨_, _, _, _, rfl, rfl⟩⟩ (Nat.le_of_ble_eq_true rfl) (Nat.le_of_ble_eq_true rfl) rfl ⟨rfl, rfl, trivial⟩ (ofStep_n (nI s) ((a 1) s) ((a 1) (s - 1)) ((g 0) + (nI s))) (Nat.le_of_ble_eq_true rfl) rfl (Nat.le_of_ble_eq_true rfl) (hXl hO) rfl ((putL_f rfl).trans rfl) (?_)
    show P0 _ _ _ _ (40, [some (.ref 0), some (.int (nI s))], [], hX g a q u v (upd (upd (upd (upd z 3 (nI s)) 2 ((a 1) s)) 5 ((a 1) (s - 1))) 7 ((g 0) + (nI s))) b c y t tc TX) _
    exact P0.rv (by decide +kernel) rfl ⟨rfl, (by rw [← lst_n (f := a 1) h1])⟩
set_option maxHeartbeats 1000000 in
theorem saidBy_n {g z : Nat → Int32} {a q u v b c y : Nat → Nat → Int32} {t tc : Nat} {TX : PH} (hO : TX.length ≤ 18) {m : Nat} (hm6 : m ≤ 6) (hK : ∀ x, x < m → ∃ k, k < 6 ∧ q x 1 = nI k) (hS : ∀ x, x < m → bcOK (q x 3)) {cd en : Nat → Int32} {L : Nat} {V : (Nat → Int32) → Int32 → Int32} (hR : TxI TX t cd en L) (hT : TXok cd en L V) {x s : Nat} (hx : x < m) (hs : s < 6) : P0 4 0 0 mX10_saidBy (0, ent 3 [.ref 0, .ref (26 + 2 * x), .int (nI s)], [], hX g a q u v z b c y t tc TX) (fun r h' => ∃ z' sk', r = some (.int (cSay V q (a 1) (g 0) x s)) ∧ h' = hX g a q u v z' (up2 b 13 sk') c y t tc TX) := by
  obtain ⟨k, hk, hkk⟩ := hK x hx
  refine P0.b GX10_saidBy 3 (ob := []) (cf' := (5, [some (.ref 0), some (.ref (26 + 2 * x)), some (.int (nI s))], [.ref (26 + 2 * x), .ref 12], hX g a q u v z b c y t tc TX)) rfl trivial ?_
  refine P0.gt GX10_saidBy rfl (hX_w (by omega)) rfl ?_
  refine P0.b GX10_saidBy 1 (ob := []) (cf' := (9, [some (.ref 0), some (.ref (26 + 2 * x)), some (.int (nI s))], [.ref (26 + 2 * x), .int (q x 2), .ref 12], hX g a q u v z b c y t tc TX)) rfl trivial ?_
  refine P0.gt GX10_saidBy rfl (hX_w (by omega)) rfl ?_
  refine P0.cr (io := [12, 13]) (as := [.ref 0, .int (q x 2), .int (q x 3)]) (rest := []) (hc := [pO 2 [.ref 1, .int (z 2), .int (z 3), .int (z 4), .int (z 5), .int (z 6), .int (z 7)], pI 160 (b 13)]) (hc1 := [pO 2 [.ref 1, .int (z 2), .int (z 3), .int (q x 2), .int (z 5), .int (kb 7 (q x 3)), .int (z 7)], pI 160 (b 13)]) (r1 := none) (st' := []) (h' := hX g a q u v (upd (upd z 4 (q x 2)) 6 (kb 7 (q x 3))) b c y t tc TX) (d0 := 1) GX3_ofWitness kX10_saidBy_12 rfl ⟨_, _, rfl, rfl, .inl ⟨_, _, _, _, rfl, rfl⟩⟩ (Nat.le_of_ble_eq_true rfl) (Nat.le_of_ble_eq_true rfl) rfl ⟨rfl, rfl, trivial⟩ (ofWitness_n (q x 2) (q x 3) (hS x hx)) (Nat.le_of_ble_eq_true rfl) rfl (Nat.le_of_ble_eq_true rfl) (hXl hO) rfl ((putL_f rfl).trans rfl) (?_)
  show P0 _ _ _ _ (15, [some (.ref 0), some (.ref (26 + 2 * x)), some (.int (nI s))], [], hX g a q u v (upd (upd z 4 (q x 2)) 6 (kb 7 (q x 3))) b c y t tc TX) _
  refine P0.b GX10_saidBy 2 (ob := []) (cf' := (17, [some (.ref 0), some (.ref (26 + 2 * x)), some (.int (nI s))], [.int (nI s), .ref 0], hX g a q u v (upd (upd z 4 (q x 2)) 6 (kb 7 (q x 3))) b c y t tc TX)) rfl trivial ?_
  refine P0.cs (d := 3) (as := [.ref 0, .int (nI s)]) (rest := []) GX10_nameStep kX10_saidBy_17 rfl ⟨_, _, rfl, rfl, .inl ⟨_, _, _, _, rfl, rfl⟩⟩ (Nat.le_of_ble_eq_true rfl) (Nat.le_of_ble_eq_true rfl) (P0.mono (nameStep_n hO (s := s) (by omega)) (Nat.le_of_ble_eq_true rfl) (Nat.zero_le _) (Nat.zero_le _) (fun _ _ q => q)) (hXl hO) (fun _ _ q => (congrArg List.length q.2).trans hX_lq) ?_
  rintro _ _ ⟨rfl, rfl⟩
  show P0 _ _ _ _ (20, [some (.ref 0), some (.ref (26 + 2 * x)), some (.int (nI s))], [], hX g a q u v (upd (upd (upd (upd (upd (upd z 4 (q x 2)) 6 (kb 7 (q x 3))) 3 (nI s)) 2 ((a 1) s)) 5 (lstV (a 1) s)) 7 ((g 0) + nI s)) b c y t tc TX) _
  refine P0.b GX10_saidBy 5 (ob := []) (cf' := (29, [some (.ref 0), some (.ref (26 + 2 * x)), some (.int (nI s))], [.ref (26 + 2 * x), .ref 12, .ref (46 + 3 * t)], hX g a q u v (upd (upd (upd (upd (upd (upd z 4 (q x 2)) 6 (kb 7 (q x 3))) 3 (nI s)) 2 ((a 1) s)) 5 (lstV (a 1) s)) 7 ((g 0) + nI s)) b c y t tc TX)) rfl trivial ?_
  refine P0.gt GX10_saidBy rfl (hX_w (by omega)) rfl ?_
  refine P0.b GX10_saidBy 1 (ob := []) (cf' := (33, [some (.ref 0), some (.ref (26 + 2 * x)), some (.int (nI s))], [.ref (26 + 2 * x), .int (q x 1), .ref 12, .ref (46 + 3 * t)], hX g a q u v (upd (upd (upd (upd (upd (upd z 4 (q x 2)) 6 (kb 7 (q x 3))) 3 (nI s)) 2 ((a 1) s)) 5 (lstV (a 1) s)) 7 ((g 0) + nI s)) b c y t tc TX)) rfl trivial ?_
  rw [show q x 1 = nI k from hkk]
  refine P0.gt GX10_saidBy rfl (hX_w (by omega)) rfl ?_
  refine P0.crx (α := Nat → Int32) (io := [46 + 3 * t, 47 + 3 * t, 48 + 3 * t, 12, 13]) (as := [.ref 0, .ref 3, .int (nI k), .int (q x 3)]) (rest := []) (hc := [pO 5 [.ref 1, .ref 2], pI L cd, pI 3 en, pO 2 [.ref 4, .int ((a 1) s), .int (nI s), .int (q x 2), .int (lstV (a 1) s), .int (kb 7 (q x 3)), .int ((g 0) + nI s)], pI 160 (b 13)]) (hc1 := fun sk2 => [pO 5 [.ref 1, .ref 2], pI L cd, pI 3 en, pO 2 [.ref 4, .int ((a 1) s), .int (nI s), .int (q x 2), .int (lstV (a 1) s), .int (kb 7 (q x 3)), .int ((g 0) + nI s)], pI 160 sk2]) (r1 := some (.int (sayK (nI k) (q x 2) (q x 3) (nI s) ((a 1) s) (cut 0 (V (ev ((a 1) s) (nI s) (q x 2) (lstV (a 1) s) (kb 7 (q x 3)) ((g 0) + nI s)) 0))))) (st' := [.int (sayK (nI k) (q x 2) (q x 3) (nI s) ((a 1) s) (cut 0 (V (ev ((a 1) s) (nI s) (q x 2) (lstV (a 1) s) (kb 7 (q x 3)) ((g 0) + nI s)) 0)))]) (h' := fun sk2 => hX g a q u v (upd (upd (upd (upd (upd (upd z 4 (q x 2)) 6 (kb 7 (q x 3))) 3 (nI s)) 2 ((a 1) s)) 5 (lstV (a 1) s)) 7 ((g 0) + nI s)) (up2 b 13 sk2) c y t tc TX) (d0 := 3) GX1_telling kX10_saidBy_36 rfl rfl (Nat.le_of_ble_eq_true rfl) (Nat.le_of_ble_eq_true rfl) (nd_t _) ⟨hX_t0 hR, hX_t1 hR, hX_t2 hR, rfl, rfl, trivial⟩ (telling_n hT (k := k) hk (q x 3)) (Nat.le_of_ble_eq_true rfl) rfl (Nat.le_of_ble_eq_true rfl) (hXl hO) (fun _ => rfl) (fun sk2 => by refine (putL_f rfl).trans ?_; show setL (hX g a q u v (upd (upd (upd (upd (upd (upd z 4 (q x 2)) 6 (kb 7 (q x 3))) 3 (nI s)) 2 ((a 1) s)) 5 (lstV (a 1) s)) 7 ((g 0) + nI s)) b c y t tc TX) [46 + 3 * t, 47 + 3 * t, 48 + 3 * t, 12, 13] [pO 5 [.ref (47 + 3 * t), .ref (48 + 3 * t)], pI L cd, pI 3 en, pO 2 [.ref 13, .int ((a 1) s), .int (nI s), .int (q x 2), .int (lstV (a 1) s), .int (kb 7 (q x 3)), .int ((g 0) + nI s)], pI 160 sk2] = hX g a q u v (upd (upd (upd (upd (upd (upd z 4 (q x 2)) 6 (kb 7 (q x 3))) 3 (nI s)) 2 ((a 1) s)) 5 (lstV (a 1) s)) 7 ((g 0) + nI s)) (up2 b 13 sk2) c y t tc TX; rw [setL_c, set_same (hX_t0 hR)]; rw [setL_c, set_same (hX_t1 hR)]; rw [setL_c, set_same (hX_t2 hR)]; rfl) (fun sk2 => ?_)
  show P0 _ _ _ _ (39, [some (.ref 0), some (.ref (26 + 2 * x)), some (.int (nI s))], [.int (sayK (nI k) (q x 2) (q x 3) (nI s) ((a 1) s) (cut 0 (V (ev ((a 1) s) (nI s) (q x 2) (lstV (a 1) s) (kb 7 (q x 3)) ((g 0) + nI s)) 0)))], hX g a q u v (upd (upd (upd (upd (upd (upd z 4 (q x 2)) 6 (kb 7 (q x 3))) 3 (nI s)) 2 ((a 1) s)) 5 (lstV (a 1) s)) 7 ((g 0) + nI s)) (up2 b 13 sk2) c y t tc TX) _
  exact P0.ri (by decide +kernel) rfl rfl ⟨_, _, (by rw [← hkk]; rfl), rfl⟩
set_option maxHeartbeats 1000000 in
theorem priceOf_n {g z : Nat → Int32} {a q u v b c y : Nat → Nat → Int32} {t tc : Nat} {TX : PH} (hO : TX.length ≤ 18) {m : Nat} (hm6 : m ≤ 6) (hS : ∀ x, x < m → bcOK (q x 3)) {cd en : Nat → Int32} {L : Nat} {V : (Nat → Int32) → Int32 → Int32} (hR : TxI TX t cd en L) (hT : TXok cd en L V) {x : Nat} (hx : x < m) : P0 3 0 0 mX10_priceOf (0, ent 2 [.ref 0, .ref (26 + 2 * x)], [], hX g a q u v z b c y t tc TX) (fun r h' => ∃ z' sk', r = some (.int (cPrc V q (g 0) x)) ∧ h' = hX g a q u v z' (up2 b 13 sk') c y t tc TX) := by
  refine P0.b GX10_priceOf 3 (ob := []) (cf' := (5, [some (.ref 0), some (.ref (26 + 2 * x))], [.ref (26 + 2 * x), .ref 12], hX g a q u v z b c y t tc TX)) rfl trivial ?_
  refine P0.gt GX10_priceOf rfl (hX_w (by omega)) rfl ?_
  refine P0.b GX10_priceOf 1 (ob := []) (cf' := (9, [some (.ref 0), some (.ref (26 + 2 * x))], [.ref (26 + 2 * x), .int (q x 2), .ref 12], hX g a q u v z b c y t tc TX)) rfl trivial ?_
  refine P0.gt GX10_priceOf rfl (hX_w (by omega)) rfl ?_
  refine P0.cr (io := [12, 13]) (as := [.ref 0, .int (q x 2), .int (q x 3)]) (rest := []) (hc := [pO 2 [.ref 1, .int (z 2), .int (z 3), .int (z 4), .int (z 5), .int (z 6), .int (z 7)], pI 160 (b 13)]) (hc1 := [pO 2 [.ref 1, .int (z 2), .int (z 3), .int (q x 2), .int (z 5), .int (kb 7 (q x 3)), .int (z 7)], pI 160 (b 13)]) (r1 := none) (st' := []) (h' := hX g a q u v (upd (upd z 4 (q x 2)) 6 (kb 7 (q x 3))) b c y t tc TX) (d0 := 1) GX3_ofWitness kX10_priceOf_12 rfl ⟨_, _, rfl, rfl, .inl ⟨_, _, _, _, rfl, rfl⟩⟩ (Nat.le_of_ble_eq_true rfl) (Nat.le_of_ble_eq_true rfl) rfl ⟨rfl, rfl, trivial⟩ (ofWitness_n (q x 2) (q x 3) (hS x hx)) (Nat.le_of_ble_eq_true rfl) rfl (Nat.le_of_ble_eq_true rfl) (hXl hO) rfl ((putL_f rfl).trans rfl) (?_)
  show P0 _ _ _ _ (15, [some (.ref 0), some (.ref (26 + 2 * x))], [], hX g a q u v (upd (upd z 4 (q x 2)) 6 (kb 7 (q x 3))) b c y t tc TX) _
  refine P0.b GX10_priceOf 7 (ob := []) (cf' := (26, [some (.ref 0), some (.ref (26 + 2 * x))], [.int (g 0), .int 0, .int 0, .int 0, .ref 12], hX g a q u v (upd (upd z 4 (q x 2)) 6 (kb 7 (q x 3))) b c y t tc TX)) rfl trivial ?_
  refine P0.cr (io := [12, 13]) (as := [.ref 0, .int 0, .int 0, .int 0, .int (g 0)]) (rest := []) (hc := [pO 2 [.ref 1, .int (z 2), .int (z 3), .int (q x 2), .int (z 5), .int (kb 7 (q x 3)), .int (z 7)], pI 160 (b 13)]) (hc1 := [pO 2 [.ref 1, .int 0, .int 0, .int (q x 2), .int 0, .int (kb 7 (q x 3)), .int (g 0)], pI 160 (b 13)]) (r1 := none) (st' := []) (h' := hX g a q u v (upd (upd (upd (upd (upd (upd z 4 (q x 2)) 6 (kb 7 (q x 3))) 3 0) 2 0) 5 0) 7 (g 0)) b c y t tc TX) (d0 := 0) GX3_ofStep kX10_priceOf_26 rfl ⟨_, _, rfl, rfl, .inl ⟨_, _, _, _, rfl, rfl⟩⟩ (Nat.le_of_ble_eq_true rfl) (Nat.le_of_ble_eq_true rfl) rfl ⟨rfl, rfl, trivial⟩ (ofStep_n 0 0 0 (g 0)) (Nat.le_of_ble_eq_true rfl) rfl (Nat.le_of_ble_eq_true rfl) (hXl hO) rfl ((putL_f rfl).trans rfl) (?_)
  show P0 _ _ _ _ (29, [some (.ref 0), some (.ref (26 + 2 * x))], [], hX g a q u v (upd (upd (upd (upd (upd (upd z 4 (q x 2)) 6 (kb 7 (q x 3))) 3 0) 2 0) 5 0) 7 (g 0)) b c y t tc TX) _
  refine P0.b GX10_priceOf 1 (ob := []) (cf' := (30, [some (.ref 0), some (.ref (26 + 2 * x))], [.ref (26 + 2 * x)], hX g a q u v (upd (upd (upd (upd (upd (upd z 4 (q x 2)) 6 (kb 7 (q x 3))) 3 0) 2 0) 5 0) 7 (g 0)) b c y t tc TX)) rfl trivial ?_
  refine P0.gt GX10_priceOf rfl (hX_w (by omega)) rfl ?_
  refine P0.b GX10_priceOf 1 (ob := []) (cf' := (34, [some (.ref 0), some (.ref (26 + 2 * x))], [.ref (26 + 2 * x), .int (q x 1)], hX g a q u v (upd (upd (upd (upd (upd (upd z 4 (q x 2)) 6 (kb 7 (q x 3))) 3 0) 2 0) 5 0) 7 (g 0)) b c y t tc TX)) rfl trivial ?_
  refine P0.gt GX10_priceOf rfl (hX_w (by omega)) rfl ?_
  refine P0.b GX10_priceOf 5 (ob := []) (cf' := (46, [some (.ref 0), some (.ref (26 + 2 * x))], [.ref 12, .int 1, .ref (46 + 3 * t), .int (q x 2), .int (q x 1)], hX g a q u v (upd (upd (upd (upd (upd (upd z 4 (q x 2)) 6 (kb 7 (q x 3))) 3 0) 2 0) 5 0) 7 (g 0)) b c y t tc TX)) rfl trivial ?_
  refine P0.crx (α := Nat → Int32) (io := [46 + 3 * t, 47 + 3 * t, 48 + 3 * t, 12, 13]) (as := [.ref 0, .int 1, .ref 3]) (rest := [.int (q x 2), .int (q x 1)]) (hc := [pO 5 [.ref 1, .ref 2], pI L cd, pI 3 en, pO 2 [.ref 4, .int 0, .int 0, .int (q x 2), .int 0, .int (kb 7 (q x 3)), .int (g 0)], pI 160 (b 13)]) (hc1 := fun sk3 => [pO 5 [.ref 1, .ref 2], pI L cd, pI 3 en, pO 2 [.ref 4, .int 0, .int 0, .int (q x 2), .int 0, .int (kb 7 (q x 3)), .int (g 0)], pI 160 sk3]) (r1 := some (.int (cut 1 (V (ev 0 0 (q x 2) 0 (kb 7 (q x 3)) (g 0)) 1)))) (st' := [.int (cut 1 (V (ev 0 0 (q x 2) 0 (kb 7 (q x 3)) (g 0)) 1)), .int (q x 2), .int (q x 1)]) (h' := fun sk3 => hX g a q u v (upd (upd (upd (upd (upd (upd z 4 (q x 2)) 6 (kb 7 (q x 3))) 3 0) 2 0) 5 0) 7 (g 0)) (up2 b 13 sk3) c y t tc TX) (d0 := 2) GX8_value kX10_priceOf_46 rfl ⟨_, _, rfl, rfl, .inl ⟨_, _, _, _, rfl, rfl⟩⟩ (Nat.le_of_ble_eq_true rfl) (Nat.le_of_ble_eq_true rfl) (nd_t _) ⟨hX_t0 hR, hX_t1 hR, hX_t2 hR, rfl, rfl, trivial⟩ (value_1 hT) (Nat.le_of_ble_eq_true rfl) rfl (Nat.le_of_ble_eq_true rfl) (hXl hO) (fun _ => rfl) (fun sk3 => by refine (putL_f rfl).trans ?_; show setL (hX g a q u v (upd (upd (upd (upd (upd (upd z 4 (q x 2)) 6 (kb 7 (q x 3))) 3 0) 2 0) 5 0) 7 (g 0)) b c y t tc TX) [46 + 3 * t, 47 + 3 * t, 48 + 3 * t, 12, 13] [pO 5 [.ref (47 + 3 * t), .ref (48 + 3 * t)], pI L cd, pI 3 en, pO 2 [.ref 13, .int 0, .int 0, .int (q x 2), .int 0, .int (kb 7 (q x 3)), .int (g 0)], pI 160 sk3] = hX g a q u v (upd (upd (upd (upd (upd (upd z 4 (q x 2)) 6 (kb 7 (q x 3))) 3 0) 2 0) 5 0) 7 (g 0)) (up2 b 13 sk3) c y t tc TX; rw [setL_c, set_same (hX_t0 hR)]; rw [setL_c, set_same (hX_t1 hR)]; rw [setL_c, set_same (hX_t2 hR)]; rfl) (fun sk3 => ?_)
  show P0 _ _ _ _ (49, [some (.ref 0), some (.ref (26 + 2 * x))], [.int (cut 1 (V (ev 0 0 (q x 2) 0 (kb 7 (q x 3)) (g 0)) 1)), .int (q x 2), .int (q x 1)], hX g a q u v (upd (upd (upd (upd (upd (upd z 4 (q x 2)) 6 (kb 7 (q x 3))) 3 0) 2 0) 5 0) 7 (g 0)) (up2 b 13 sk3) c y t tc TX) _
  refine P0.cr (io := []) (as := [.int (q x 1), .int (q x 2), .int (cut 1 (V (ev 0 0 (q x 2) 0 (kb 7 (q x 3)) (g 0)) 1))]) (rest := []) (hc := []) (hc1 := []) (r1 := some (.int (prcK (q x 1) (q x 2) (cut 1 (V (ev 0 0 (q x 2) 0 (kb 7 (q x 3)) (g 0)) 1))))) (st' := [.int (prcK (q x 1) (q x 2) (cut 1 (V (ev 0 0 (q x 2) 0 (kb 7 (q x 3)) (g 0)) 1)))]) (h' := hX g a q u v (upd (upd (upd (upd (upd (upd z 4 (q x 2)) 6 (kb 7 (q x 3))) 3 0) 2 0) 5 0) 7 (g 0)) (up2 b 13 sk3) c y t tc TX) (d0 := 0) GX1_price kX10_priceOf_49 rfl rfl (Nat.le_of_ble_eq_true rfl) (Nat.le_of_ble_eq_true rfl) rfl trivial (price_n (q x 1) (q x 2) (cut 1 (V (ev 0 0 (q x 2) 0 (kb 7 (q x 3)) (g 0)) 1))) (Nat.le_of_ble_eq_true rfl) rfl (Nat.le_of_ble_eq_true rfl) (hXl hO) rfl ((putL_f rfl).trans rfl) (?_)
  show P0 _ _ _ _ (52, [some (.ref 0), some (.ref (26 + 2 * x))], [.int (prcK (q x 1) (q x 2) (cut 1 (V (ev 0 0 (q x 2) 0 (kb 7 (q x 3)) (g 0)) 1)))], hX g a q u v (upd (upd (upd (upd (upd (upd z 4 (q x 2)) 6 (kb 7 (q x 3))) 3 0) 2 0) 5 0) 7 (g 0)) (up2 b 13 sk3) c y t tc TX) _
  exact P0.ri (by decide +kernel) rfl rfl ⟨_, _, rfl, rfl⟩
