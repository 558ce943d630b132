/-! ===== laid by program (wip/tools) ===== -/
theorem hT_len {g : Nat → Int32} {a : Nat → Nat → Int32} {fr n e tk p : Int32} {w : Int64} {op bd fl : Int32} : (hT g a fr n e tk p w op bd fl).length = 18 := rfl
theorem pone_neg {X : Type} {S : Nat → Int32} {nxt : Nat → Nat} {A : ALG X} {ok : Bool} {dE dO : Nat → PR X} {p : Nat} (h : S p = -17) : pone S nxt A ok dE dO p = (bif ok then pbind (dO (nxt p)) (fun x p' => .inr (A.2.1 (-21) x, p')) else .inl p) := by
  unfold pone
  rw [h, if_neg (by decide), if_pos rfl]
theorem pone_par {X : Type} {S : Nat → Int32} {nxt : Nat → Nat} {A : ALG X} {ok : Bool} {dE dO : Nat → PR X} {p : Nat} (h : S p = -13) : pone S nxt A ok dE dO p = (bif ok then pbind (dE (nxt p)) (fun x p' => if S p' = -14 then .inr (x, nxt p') else .inl p') else .inl p) := by
  unfold pone
  rw [h, if_neg (by decide), if_neg (by decide), if_pos rfl]
theorem pone_neg_no {X : Type} {S : Nat → Int32} {nxt : Nat → Nat} {A : ALG X} {dE dO : Nat → PR X} {p q : Nat} (h : S p = -17) (hr : dO (nxt p) = .inl q) : pone S nxt A true dE dO p = .inl q := by
  rw [pone_neg h, cond_true, hr]; rfl
theorem pone_neg_yes {X : Type} {S : Nat → Int32} {nxt : Nat → Nat} {A : ALG X} {dE dO : Nat → PR X} {p p' : Nat} {x y : X} (h : S p = -17) (hr : dO (nxt p) = .inr (x, p')) (hy : A.2.1 (-21) x = y) : pone S nxt A true dE dO p = .inr (y, p') := by
  rw [pone_neg h, cond_true, hr, ← hy]; rfl
theorem pone_par_no {X : Type} {S : Nat → Int32} {nxt : Nat → Nat} {A : ALG X} {dE dO : Nat → PR X} {p q : Nat} (h : S p = -13) (hr : dE (nxt p) = .inl q) : pone S nxt A true dE dO p = .inl q := by
  rw [pone_par h, cond_true, hr]; rfl
theorem pone_par_yes {X : Type} {S : Nat → Int32} {nxt : Nat → Nat} {A : ALG X} {dE dO : Nat → PR X} {p p' : Nat} {x : X} (h : S p = -13) (hr : dE (nxt p) = .inr (x, p')) (hc : S p' = -14) : pone S nxt A true dE dO p = .inr (x, nxt p') := by
  rw [pone_par h, cond_true, hr]
  show (if S p' = -14 then _ else _) = _
  rw [if_pos hc]
theorem pone_par_bad {X : Type} {S : Nat → Int32} {nxt : Nat → Nat} {A : ALG X} {dE dO : Nat → PR X} {p p' : Nat} {x : X} (h : S p = -13) (hr : dE (nxt p) = .inr (x, p')) (hc : ¬ S p' = -14) : pone S nxt A true dE dO p = .inl p' := by
  rw [pone_par h, cond_true, hr]
  show (if S p' = -14 then _ else _) = _
  rw [if_neg hc]
theorem pone_val {X : Type} {S : Nat → Int32} {nxt : Nat → Nat} {A : ALG X} {ok : Bool} {dE dO : Nat → PR X} {p : Nat} (h : -6 ≤ S p) : pone S nxt A ok dE dO p = .inr (A.1 (S p), nxt p) := by
  unfold pone
  rw [if_pos h]
theorem pone_bad {X : Type} {S : Nat → Int32} {nxt : Nat → Nat} {A : ALG X} {ok : Bool} {dE dO : Nat → PR X} {p : Nat} (h : ¬ -6 ≤ S p) (h1 : ¬ S p = -17) (h2 : ¬ S p = -13) : pone S nxt A ok dE dO p = .inl p := by
  unfold pone
  rw [if_neg h, if_neg h1, if_neg h2]
theorem vNm_num {g : Nat → Int32} {s : Int32} (h : 0 ≤ s) : vNm g s = s := by
  have hn : ∀ k : Int32, k < 0 → ¬ s = k := fun k hk z => by
    rw [z] at h
    exact absurd (Int32.lt_of_le_of_lt h hk) (by exact Int32.lt_irrefl)
  unfold vNm
  rw [if_neg (hn _ (by decide)), if_neg (hn _ (by decide)), if_neg (hn _ (by decide)), if_neg (hn _ (by decide)), if_neg (hn _ (by decide)), if_neg (hn _ (by decide))]
theorem pone_num {g : Nat → Int32} {B : Nat → Int32} {ok : Bool} {dE dO : Nat → PR Int32} {p : Nat} {w : Int64} (h : kd B p = 2) (hw : wOK B p w) : pone (sg B) (nx B) (vA g) ok dE dO p = .inr (w.toInt32, nx B p) := by
  have h0 := kd2 h
  rw [pone_val (Int32.le_trans (by decide) h0), w2 hw h]
  show Sum.inr (vNm g (sg B p), _) = _
  rw [vNm_num h0]
theorem six {x : Int32} (h1 : -6 ≤ x) (h2 : x ≤ -1) : x = -1 ∨ x = -2 ∨ x = -3 ∨ x = -4 ∨ x = -5 ∨ x = -6 := by
  have a1 := Int32.le_iff_toInt_le.mp h1
  have a2 := Int32.le_iff_toInt_le.mp h2
  have e1 : (-6 : Int32).toInt = -6 := by decide
  have e2 : (-1 : Int32).toInt = -1 := by decide
  rw [e1] at a1
  rw [e2] at a2
  rcases (by omega : x.toInt = -1 ∨ x.toInt = -2 ∨ x.toInt = -3 ∨ x.toInt = -4 ∨ x.toInt = -5 ∨ x.toInt = -6) with h | h | h | h | h | h
  · exact Or.inl (Int32.toInt_inj.mp h)
  · exact Or.inr (Or.inl (Int32.toInt_inj.mp h))
  · exact Or.inr (Or.inr (Or.inl (Int32.toInt_inj.mp h)))
  · exact Or.inr (Or.inr (Or.inr (Or.inl (Int32.toInt_inj.mp h))))
  · exact Or.inr (Or.inr (Or.inr (Or.inr (Or.inl (Int32.toInt_inj.mp h)))))
  · exact Or.inr (Or.inr (Or.inr (Or.inr (Or.inr (Int32.toInt_inj.mp h)))))
theorem e_opens_no {g : Nat → Int32} {a : Nat → Nat → Int32} {fr n p : Nat} {w : Int64} {fl op : Int32} (hop : op = 5) : P0 2 0 0 mX11_opens (0, ent 1 [.ref 0], [], hT g a (nI fr) (nI n) (nI (en (Bt (a 1) fr n) p)) (kd (Bt (a 1) fr n) p) (nI p) w op 0 fl) (fun r h' => r = some (.int 0) ∧ h' = hT g a (nI fr) (nI n) (nI (en (Bt (a 1) fr n) p)) (kd (Bt (a 1) fr n) p) (nI p) w op 1 (nI p)) := by
  refine P0.b GX11_opens 4 (ob := []) (cf' := (if op = 5 then 8 else 14, [some (.ref 0)], [], hT g a (nI fr) (nI n) (nI (en (Bt (a 1) fr n) p)) (kd (Bt (a 1) fr n) p) (nI p) w op 0 fl)) rfl trivial ?_
  rw [if_pos (show op = 5 from hop)]
  refine P0.b GX11_opens 1 (ob := []) (cf' := (9, [some (.ref 0)], [.ref 0], hT g a (nI fr) (nI n) (nI (en (Bt (a 1) fr n) p)) (kd (Bt (a 1) fr n) p) (nI p) w op 0 fl)) rfl trivial ?_
  refine P0.cd (d0 := 0) (as := [.ref 0]) (rest := []) (r1 := none) (h1 := hT g a (nI fr) (nI n) (nI (en (Bt (a 1) fr n) p)) (kd (Bt (a 1) fr n) p) (nI p) w op 1 (nI p)) (st' := []) GX11_fail kX11_opens_9 rfl ⟨_, _, rfl, rfl, .inl ⟨_, _, _, _, rfl, rfl⟩⟩ (Nat.le_of_ble_eq_true rfl) (Nat.le_of_ble_eq_true rfl) (e_fail_ok) (Nat.le_of_ble_eq_true rfl) rfl (Nat.le_of_ble_eq_true rfl) rfl ?_
  refine P0.b GX11_opens 1 (ob := []) (cf' := (13, [some (.ref 0)], [.int 0], hT g a (nI fr) (nI n) (nI (en (Bt (a 1) fr n) p)) (kd (Bt (a 1) fr n) p) (nI p) w op 1 (nI p))) rfl trivial ?_
  exact P0.ri (by decide +kernel) rfl (by rfl) ⟨rfl, rfl⟩
theorem e_opens_yes {g : Nat → Int32} {a : Nat → Nat → Int32} {fr n : Nat} (hT0 : TxOK a fr n) {p : Nat} {w : Int64} {fl : Int32} (hp : p ≤ n) {op : Int32} (hop : ¬ op = 5) : P0 2 0 0 mX11_opens (0, ent 1 [.ref 0], [], hT g a (nI fr) (nI n) (nI (en (Bt (a 1) fr n) p)) (kd (Bt (a 1) fr n) p) (nI p) w op 0 fl) (fun r h' => ∃ w', r = some (.int 1) ∧ h' = hT g a (nI fr) (nI n) (nI (en (Bt (a 1) fr n) (nx (Bt (a 1) fr n) p))) (kd (Bt (a 1) fr n) (nx (Bt (a 1) fr n) p)) (nI (nx (Bt (a 1) fr n) p)) w' (op + 1) 0 fl ∧ wOK (Bt (a 1) fr n) (nx (Bt (a 1) fr n) p) w') := by
  refine P0.b GX11_opens 4 (ob := []) (cf' := (if op = 5 then 8 else 14, [some (.ref 0)], [], hT g a (nI fr) (nI n) (nI (en (Bt (a 1) fr n) p)) (kd (Bt (a 1) fr n) p) (nI p) w op 0 fl)) rfl trivial ?_
  rw [if_neg (show ¬ (op = 5) from hop)]
  refine P0.b GX11_opens 7 (ob := []) (cf' := (25, [some (.ref 0)], [.ref 0], hT g a (nI fr) (nI n) (nI (en (Bt (a 1) fr n) p)) (kd (Bt (a 1) fr n) p) (nI p) w (op + 1) 0 fl)) rfl trivial ?_
  refine P0.cs (as := [.ref 0]) (rest := []) GX11_nextToken kX11_opens_25 rfl ⟨_, _, rfl, rfl, .inl ⟨_, _, _, _, rfl, rfl⟩⟩ (Nat.le_of_ble_eq_true rfl) (Nat.le_of_ble_eq_true rfl) (P0.mono (e_X11_nextToken hT0 (en (Bt (a 1) fr n) p) (en_le hp) _ _ _ _ _ _) (Nat.le_of_ble_eq_true rfl) (Nat.zero_le _) (Nat.zero_le _) (fun _ _ q => q)) (Nat.le_of_ble_eq_true rfl) (fun _ _ q => q.len) ?_
  rintro _ _ ⟨w1, rfl, rfl, hw1⟩
  have hp1 := nx_le (f := a 1) (fr := fr) hp
  show P0 _ _ _ _ (28, [some (.ref 0)], [], hT g a (nI fr) (nI n) (nI (en (Bt (a 1) fr n) (nx (Bt (a 1) fr n) p))) (kd (Bt (a 1) fr n) (nx (Bt (a 1) fr n) p)) (nI (nx (Bt (a 1) fr n) p)) w1 (op + 1) 0 fl) _
  refine P0.b GX11_opens 1 (ob := []) (cf' := (29, [some (.ref 0)], [.int 1], hT g a (nI fr) (nI n) (nI (en (Bt (a 1) fr n) (nx (Bt (a 1) fr n) p))) (kd (Bt (a 1) fr n) (nx (Bt (a 1) fr n) p)) (nI (nx (Bt (a 1) fr n) p)) w1 (op + 1) 0 fl)) rfl trivial ?_
  exact P0.ri (by decide +kernel) rfl (by rfl) ⟨_, rfl, rfl, hw1⟩
set_option maxHeartbeats 2000000 in
theorem e_X11_name {g : Nat → Int32} {a : Nat → Nat → Int32} {fr n : Nat} (hT0 : TxOK a fr n) {p : Nat} {w : Int64} {fl : Int32} (hw : wOK (Bt (a 1) fr n) p w) (hp : p ≤ n) {op : Int32} (hk : kd (Bt (a 1) fr n) p = 1) : P0 3 0 0 mX11_name (0, ent 1 [.ref 0], [], hT g a (nI fr) (nI n) (nI (en (Bt (a 1) fr n) p)) (kd (Bt (a 1) fr n) p) (nI p) w op 0 fl) (fun r h' => (-6 ≤ sg (Bt (a 1) fr n) p ∧ r = some (.int (vNm g (sg (Bt (a 1) fr n) p))) ∧ h' = hT g a (nI fr) (nI n) (nI (en (Bt (a 1) fr n) p)) (kd (Bt (a 1) fr n) p) (nI p) w op 0 fl) ∨ (¬ -6 ≤ sg (Bt (a 1) fr n) p ∧ r = some (.int 0) ∧ h' = hT g a (nI fr) (nI n) (nI (en (Bt (a 1) fr n) p)) (kd (Bt (a 1) fr n) p) (nI p) w op 1 (nI p))) := by
  refine P0.b GX11_name 9 (ob := []) (cf' := (14, [some (.ref 0)], [.int 0, .int 0, .int 0, .int 103, .int 110, .int 105, .int 111, .int 100, .ref 0], hT g a (nI fr) (nI n) (nI (en (Bt (a 1) fr n) p)) (kd (Bt (a 1) fr n) p) (nI p) w op 0 fl)) rfl trivial ?_
  refine P0.cd (d0 := 2) (as := [.ref 0, .int 100, .int 111, .int 105, .int 110, .int 103, .int 0, .int 0, .int 0]) (rest := []) (r1 := some (.int (if sg (Bt (a 1) fr n) p = (-1) then 1 else 0))) (h1 := hT g a (nI fr) (nI n) (nI (en (Bt (a 1) fr n) p)) (kd (Bt (a 1) fr n) p) (nI p) w op 0 fl) (st' := [.int (if sg (Bt (a 1) fr n) p = (-1) then 1 else 0)]) GX11_isWord kX11_name_14 rfl ⟨_, _, rfl, rfl, .inl ⟨_, _, _, _, rfl, rfl⟩⟩ (Nat.le_of_ble_eq_true rfl) (Nat.le_of_ble_eq_true rfl) (e_isWord_ok hT0 hp (cs := [100, 111, 105, 110, 103]) (code := (-1)) (by decide +kernel) (by decide) (by decide)) (Nat.le_of_ble_eq_true rfl) rfl (Nat.le_of_ble_eq_true rfl) rfl ?_
  refine P0.b GX11_name 1 (ob := []) (cf' := (if (if sg (Bt (a 1) fr n) p = (-1) then 1 else 0) = 0 then 25 else 20, [some (.ref 0)], [], hT g a (nI fr) (nI n) (nI (en (Bt (a 1) fr n) p)) (kd (Bt (a 1) fr n) p) (nI p) w op 0 fl)) rfl trivial ?_
  refine P0.ifB (fun h1 => ?_) (fun h1 => ?_)
  · refine P0.b GX11_name 9 (ob := []) (cf' := (38, [some (.ref 0)], [.int 0, .int 0, .int 0, .int 0, .int 112, .int 101, .int 116, .int 115, .ref 0], hT g a (nI fr) (nI n) (nI (en (Bt (a 1) fr n) p)) (kd (Bt (a 1) fr n) p) (nI p) w op 0 fl)) rfl trivial ?_
    refine P0.cd (d0 := 2) (as := [.ref 0, .int 115, .int 116, .int 101, .int 112, .int 0, .int 0, .int 0, .int 0]) (rest := []) (r1 := some (.int (if sg (Bt (a 1) fr n) p = (-2) then 1 else 0))) (h1 := hT g a (nI fr) (nI n) (nI (en (Bt (a 1) fr n) p)) (kd (Bt (a 1) fr n) p) (nI p) w op 0 fl) (st' := [.int (if sg (Bt (a 1) fr n) p = (-2) then 1 else 0)]) GX11_isWord kX11_name_38 rfl ⟨_, _, rfl, rfl, .inl ⟨_, _, _, _, rfl, rfl⟩⟩ (Nat.le_of_ble_eq_true rfl) (Nat.le_of_ble_eq_true rfl) (e_isWord_ok hT0 hp (cs := [115, 116, 101, 112]) (code := (-2)) (by decide +kernel) (by decide) (by decide)) (Nat.le_of_ble_eq_true rfl) rfl (Nat.le_of_ble_eq_true rfl) rfl ?_
    refine P0.b GX11_name 1 (ob := []) (cf' := (if (if sg (Bt (a 1) fr n) p = (-2) then 1 else 0) = 0 then 49 else 44, [some (.ref 0)], [], hT g a (nI fr) (nI n) (nI (en (Bt (a 1) fr n) p)) (kd (Bt (a 1) fr n) p) (nI p) w op 0 fl)) rfl trivial ?_
    refine P0.ifB (fun h2 => ?_) (fun h2 => ?_)
    · refine P0.b GX11_name 9 (ob := []) (cf' := (64, [some (.ref 0)], [.int 0, .int 0, .int 114, .int 101, .int 98, .int 109, .int 117, .int 110, .ref 0], hT g a (nI fr) (nI n) (nI (en (Bt (a 1) fr n) p)) (kd (Bt (a 1) fr n) p) (nI p) w op 0 fl)) rfl trivial ?_
      refine P0.cd (d0 := 2) (as := [.ref 0, .int 110, .int 117, .int 109, .int 98, .int 101, .int 114, .int 0, .int 0]) (rest := []) (r1 := some (.int (if sg (Bt (a 1) fr n) p = (-3) then 1 else 0))) (h1 := hT g a (nI fr) (nI n) (nI (en (Bt (a 1) fr n) p)) (kd (Bt (a 1) fr n) p) (nI p) w op 0 fl) (st' := [.int (if sg (Bt (a 1) fr n) p = (-3) then 1 else 0)]) GX11_isWord kX11_name_64 rfl ⟨_, _, rfl, rfl, .inl ⟨_, _, _, _, rfl, rfl⟩⟩ (Nat.le_of_ble_eq_true rfl) (Nat.le_of_ble_eq_true rfl) (e_isWord_ok hT0 hp (cs := [110, 117, 109, 98, 101, 114]) (code := (-3)) (by decide +kernel) (by decide) (by decide)) (Nat.le_of_ble_eq_true rfl) rfl (Nat.le_of_ble_eq_true rfl) rfl ?_
      refine P0.b GX11_name 1 (ob := []) (cf' := (if (if sg (Bt (a 1) fr n) p = (-3) then 1 else 0) = 0 then 75 else 70, [some (.ref 0)], [], hT g a (nI fr) (nI n) (nI (en (Bt (a 1) fr n) p)) (kd (Bt (a 1) fr n) p) (nI p) w op 0 fl)) rfl trivial ?_
      refine P0.ifB (fun h3 => ?_) (fun h3 => ?_)
      · refine P0.b GX11_name 9 (ob := []) (cf' := (88, [some (.ref 0)], [.int 0, .int 0, .int 0, .int 0, .int 116, .int 115, .int 97, .int 108, .ref 0], hT g a (nI fr) (nI n) (nI (en (Bt (a 1) fr n) p)) (kd (Bt (a 1) fr n) p) (nI p) w op 0 fl)) rfl trivial ?_
        refine P0.cd (d0 := 2) (as := [.ref 0, .int 108, .int 97, .int 115, .int 116, .int 0, .int 0, .int 0, .int 0]) (rest := []) (r1 := some (.int (if sg (Bt (a 1) fr n) p = (-4) then 1 else 0))) (h1 := hT g a (nI fr) (nI n) (nI (en (Bt (a 1) fr n) p)) (kd (Bt (a 1) fr n) p) (nI p) w op 0 fl) (st' := [.int (if sg (Bt (a 1) fr n) p = (-4) then 1 else 0)]) GX11_isWord kX11_name_88 rfl ⟨_, _, rfl, rfl, .inl ⟨_, _, _, _, rfl, rfl⟩⟩ (Nat.le_of_ble_eq_true rfl) (Nat.le_of_ble_eq_true rfl) (e_isWord_ok hT0 hp (cs := [108, 97, 115, 116]) (code := (-4)) (by decide +kernel) (by decide) (by decide)) (Nat.le_of_ble_eq_true rfl) rfl (Nat.le_of_ble_eq_true rfl) rfl ?_
        refine P0.b GX11_name 1 (ob := []) (cf' := (if (if sg (Bt (a 1) fr n) p = (-4) then 1 else 0) = 0 then 99 else 94, [some (.ref 0)], [], hT g a (nI fr) (nI n) (nI (en (Bt (a 1) fr n) p)) (kd (Bt (a 1) fr n) p) (nI p) w op 0 fl)) rfl trivial ?_
        refine P0.ifB (fun h4 => ?_) (fun h4 => ?_)
        · refine P0.b GX11_name 9 (ob := []) (cf' := (112, [some (.ref 0)], [.int 0, .int 0, .int 0, .int 0, .int 110, .int 101, .int 101, .int 115, .ref 0], hT g a (nI fr) (nI n) (nI (en (Bt (a 1) fr n) p)) (kd (Bt (a 1) fr n) p) (nI p) w op 0 fl)) rfl trivial ?_
          refine P0.cd (d0 := 2) (as := [.ref 0, .int 115, .int 101, .int 101, .int 110, .int 0, .int 0, .int 0, .int 0]) (rest := []) (r1 := some (.int (if sg (Bt (a 1) fr n) p = (-5) then 1 else 0))) (h1 := hT g a (nI fr) (nI n) (nI (en (Bt (a 1) fr n) p)) (kd (Bt (a 1) fr n) p) (nI p) w op 0 fl) (st' := [.int (if sg (Bt (a 1) fr n) p = (-5) then 1 else 0)]) GX11_isWord kX11_name_112 rfl ⟨_, _, rfl, rfl, .inl ⟨_, _, _, _, rfl, rfl⟩⟩ (Nat.le_of_ble_eq_true rfl) (Nat.le_of_ble_eq_true rfl) (e_isWord_ok hT0 hp (cs := [115, 101, 101, 110]) (code := (-5)) (by decide +kernel) (by decide) (by decide)) (Nat.le_of_ble_eq_true rfl) rfl (Nat.le_of_ble_eq_true rfl) rfl ?_
          refine P0.b GX11_name 1 (ob := []) (cf' := (if (if sg (Bt (a 1) fr n) p = (-5) then 1 else 0) = 0 then 123 else 118, [some (.ref 0)], [], hT g a (nI fr) (nI n) (nI (en (Bt (a 1) fr n) p)) (kd (Bt (a 1) fr n) p) (nI p) w op 0 fl)) rfl trivial ?_
          refine P0.ifB (fun h5 => ?_) (fun h5 => ?_)
          · refine P0.b GX11_name 9 (ob := []) (cf' := (135, [some (.ref 0)], [.int 0, .int 0, .int 0, .int 0, .int 0, .int 101, .int 103, .int 97, .ref 0], hT g a (nI fr) (nI n) (nI (en (Bt (a 1) fr n) p)) (kd (Bt (a 1) fr n) p) (nI p) w op 0 fl)) rfl trivial ?_
            refine P0.cd (d0 := 2) (as := [.ref 0, .int 97, .int 103, .int 101, .int 0, .int 0, .int 0, .int 0, .int 0]) (rest := []) (r1 := some (.int (if sg (Bt (a 1) fr n) p = (-6) then 1 else 0))) (h1 := hT g a (nI fr) (nI n) (nI (en (Bt (a 1) fr n) p)) (kd (Bt (a 1) fr n) p) (nI p) w op 0 fl) (st' := [.int (if sg (Bt (a 1) fr n) p = (-6) then 1 else 0)]) GX11_isWord kX11_name_135 rfl ⟨_, _, rfl, rfl, .inl ⟨_, _, _, _, rfl, rfl⟩⟩ (Nat.le_of_ble_eq_true rfl) (Nat.le_of_ble_eq_true rfl) (e_isWord_ok hT0 hp (cs := [97, 103, 101]) (code := (-6)) (by decide +kernel) (by decide) (by decide)) (Nat.le_of_ble_eq_true rfl) rfl (Nat.le_of_ble_eq_true rfl) rfl ?_
            refine P0.b GX11_name 1 (ob := []) (cf' := (if (if sg (Bt (a 1) fr n) p = (-6) then 1 else 0) = 0 then 146 else 141, [some (.ref 0)], [], hT g a (nI fr) (nI n) (nI (en (Bt (a 1) fr n) p)) (kd (Bt (a 1) fr n) p) (nI p) w op 0 fl)) rfl trivial ?_
            refine P0.ifB (fun h6 => ?_) (fun h6 => ?_)
            · refine P0.b GX11_name 1 (ob := []) (cf' := (147, [some (.ref 0)], [.ref 0], hT g a (nI fr) (nI n) (nI (en (Bt (a 1) fr n) p)) (kd (Bt (a 1) fr n) p) (nI p) w op 0 fl)) rfl trivial ?_
              refine P0.cd (d0 := 0) (as := [.ref 0]) (rest := []) (r1 := none) (h1 := hT g a (nI fr) (nI n) (nI (en (Bt (a 1) fr n) p)) (kd (Bt (a 1) fr n) p) (nI p) w op 1 (nI p)) (st' := []) GX11_fail kX11_name_147 rfl ⟨_, _, rfl, rfl, .inl ⟨_, _, _, _, rfl, rfl⟩⟩ (Nat.le_of_ble_eq_true rfl) (Nat.le_of_ble_eq_true rfl) (e_fail_ok) (Nat.le_of_ble_eq_true rfl) rfl (Nat.le_of_ble_eq_true rfl) rfl ?_
              refine P0.b GX11_name 1 (ob := []) (cf' := (151, [some (.ref 0)], [.int 0], hT g a (nI fr) (nI n) (nI (en (Bt (a 1) fr n) p)) (kd (Bt (a 1) fr n) p) (nI p) w op 1 (nI p))) rfl trivial ?_
              exact P0.ri (by decide +kernel) rfl rfl (.inr ⟨fun z => by rcases kd1 hk with q | ⟨q, -⟩; exact absurd (q ▸ z) (by decide); rcases six z q with z | z | z | z | z | z; exact h1 z; exact h2 z; exact h3 z; exact h4 z; exact h5 z; exact h6 z, rfl, rfl⟩)
            · refine P0.b GX11_name 2 (ob := []) (cf' := (145, [some (.ref 0)], [.int (g 17)], hT g a (nI fr) (nI n) (nI (en (Bt (a 1) fr n) p)) (kd (Bt (a 1) fr n) p) (nI p) w op 0 fl)) rfl trivial ?_
              exact P0.ri (by decide +kernel) rfl rfl (.inl ⟨by rw [h6]; decide, by rw [h6]; rfl, rfl⟩)
          · refine P0.b GX11_name 2 (ob := []) (cf' := (122, [some (.ref 0)], [.int (g 16)], hT g a (nI fr) (nI n) (nI (en (Bt (a 1) fr n) p)) (kd (Bt (a 1) fr n) p) (nI p) w op 0 fl)) rfl trivial ?_
            exact P0.ri (by decide +kernel) rfl rfl (.inl ⟨by rw [h5]; decide, by rw [h5]; rfl, rfl⟩)
        · refine P0.b GX11_name 2 (ob := []) (cf' := (98, [some (.ref 0)], [.int (g 15)], hT g a (nI fr) (nI n) (nI (en (Bt (a 1) fr n) p)) (kd (Bt (a 1) fr n) p) (nI p) w op 0 fl)) rfl trivial ?_
          exact P0.ri (by decide +kernel) rfl rfl (.inl ⟨by rw [h4]; decide, by rw [h4]; rfl, rfl⟩)
      · refine P0.b GX11_name 2 (ob := []) (cf' := (74, [some (.ref 0)], [.int (g 14)], hT g a (nI fr) (nI n) (nI (en (Bt (a 1) fr n) p)) (kd (Bt (a 1) fr n) p) (nI p) w op 0 fl)) rfl trivial ?_
        exact P0.ri (by decide +kernel) rfl rfl (.inl ⟨by rw [h3]; decide, by rw [h3]; rfl, rfl⟩)
    · refine P0.b GX11_name 2 (ob := []) (cf' := (48, [some (.ref 0)], [.int (g 13)], hT g a (nI fr) (nI n) (nI (en (Bt (a 1) fr n) p)) (kd (Bt (a 1) fr n) p) (nI p) w op 0 fl)) rfl trivial ?_
      exact P0.ri (by decide +kernel) rfl rfl (.inl ⟨by rw [h2]; decide, by rw [h2]; rfl, rfl⟩)
  · refine P0.b GX11_name 2 (ob := []) (cf' := (24, [some (.ref 0)], [.int (g 12)], hT g a (nI fr) (nI n) (nI (en (Bt (a 1) fr n) p)) (kd (Bt (a 1) fr n) p) (nI p) w op 0 fl)) rfl trivial ?_
    exact P0.ri (by decide +kernel) rfl rfl (.inl ⟨by rw [h1]; decide, by rw [h1]; rfl, rfl⟩)
set_option maxHeartbeats 2000000 in
theorem e_X11_atom5 {g : Nat → Int32} {a : Nat → Nat → Int32} {fr n : Nat} (hT0 : TxOK a fr n) {p : Nat} {w : Int64} {fl : Int32} (hw : wOK (Bt (a 1) fr n) p w) (hp : p ≤ n) {op : Int32} (hop : op = 5) : P0 4 0 0 mX11_atom5 (0, ent 2 [.ref 0], [], hT g a (nI fr) (nI n) (nI (en (Bt (a 1) fr n) p)) (kd (Bt (a 1) fr n) p) (nI p) w op 0 fl) (QP g a fr n op (lvl (sg (Bt (a 1) fr n)) (nx (Bt (a 1) fr n)) (vA g) 0 2 p)) := by
  show P0 _ _ _ _ _ (QP g a fr n op (pone (sg (Bt (a 1) fr n)) (nx (Bt (a 1) fr n)) (vA g) false .inl .inl p))
  refine P0.b GX11_atom5 4 (ob := []) (cf' := (5, [some (.ref 0), some (.int 0)], [.int 45, .ref 0], hT g a (nI fr) (nI n) (nI (en (Bt (a 1) fr n) p)) (kd (Bt (a 1) fr n) p) (nI p) w op 0 fl)) rfl trivial ?_
  refine P0.cd (d0 := 0) (as := [.ref 0, .int 45]) (rest := []) (r1 := some (.int (if sg (Bt (a 1) fr n) p = (-17) then 1 else 0))) (h1 := hT g a (nI fr) (nI n) (nI (en (Bt (a 1) fr n) p)) (kd (Bt (a 1) fr n) p) (nI p) w op 0 fl) (st' := [.int (if sg (Bt (a 1) fr n) p = (-17) then 1 else 0)]) GX11_isSign kX11_atom5_5 rfl ⟨_, _, rfl, rfl, .inl ⟨_, _, _, _, rfl, rfl⟩⟩ (Nat.le_of_ble_eq_true rfl) (Nat.le_of_ble_eq_true rfl) (e_isSign_ok hw (c := 45) (code := (-17)) (by decide +kernel)) (Nat.le_of_ble_eq_true rfl) rfl (Nat.le_of_ble_eq_true rfl) rfl ?_
  refine P0.b GX11_atom5 1 (ob := []) (cf' := (if (if sg (Bt (a 1) fr n) p = (-17) then 1 else 0) = 0 then 19 else 11, [some (.ref 0), some (.int 0)], [], hT g a (nI fr) (nI n) (nI (en (Bt (a 1) fr n) p)) (kd (Bt (a 1) fr n) p) (nI p) w op 0 fl)) rfl trivial ?_
  refine P0.ifB (fun h1 => ?_) (fun h1 => ?_)
  · refine P0.b GX11_atom5 2 (ob := []) (cf' := (22, [some (.ref 0), some (.int 0)], [.int 40, .ref 0], hT g a (nI fr) (nI n) (nI (en (Bt (a 1) fr n) p)) (kd (Bt (a 1) fr n) p) (nI p) w op 0 fl)) rfl trivial ?_
    refine P0.cd (d0 := 0) (as := [.ref 0, .int 40]) (rest := []) (r1 := some (.int (if sg (Bt (a 1) fr n) p = (-13) then 1 else 0))) (h1 := hT g a (nI fr) (nI n) (nI (en (Bt (a 1) fr n) p)) (kd (Bt (a 1) fr n) p) (nI p) w op 0 fl) (st' := [.int (if sg (Bt (a 1) fr n) p = (-13) then 1 else 0)]) GX11_isSign kX11_atom5_22 rfl ⟨_, _, rfl, rfl, .inl ⟨_, _, _, _, rfl, rfl⟩⟩ (Nat.le_of_ble_eq_true rfl) (Nat.le_of_ble_eq_true rfl) (e_isSign_ok hw (c := 40) (code := (-13)) (by decide +kernel)) (Nat.le_of_ble_eq_true rfl) rfl (Nat.le_of_ble_eq_true rfl) rfl ?_
    refine P0.b GX11_atom5 1 (ob := []) (cf' := (if (if sg (Bt (a 1) fr n) p = (-13) then 1 else 0) = 0 then 36 else 28, [some (.ref 0), some (.int 0)], [], hT g a (nI fr) (nI n) (nI (en (Bt (a 1) fr n) p)) (kd (Bt (a 1) fr n) p) (nI p) w op 0 fl)) rfl trivial ?_
    refine P0.ifB (fun h2 => ?_) (fun h2 => ?_)
    · refine P0.b GX11_atom5 7 (ob := []) (cf' := (if kd (Bt (a 1) fr n) p = 2 then 51 else 64, [some (.ref 0), some (.int 0)], [], hT g a (nI fr) (nI n) (nI (en (Bt (a 1) fr n) p)) (kd (Bt (a 1) fr n) p) (nI p) w op 0 fl)) rfl trivial ?_
      refine P0.if (fun h3 => ?_) (fun h3 => ?_)
      · refine P0.b GX11_atom5 5 (ob := []) (cf' := (58, [some (.ref 0), some (.int w.toInt32)], [.ref 0], hT g a (nI fr) (nI n) (nI (en (Bt (a 1) fr n) p)) (kd (Bt (a 1) fr n) p) (nI p) w op 0 fl)) rfl trivial ?_
        refine P0.cs (as := [.ref 0]) (rest := []) GX11_nextToken kX11_atom5_58 rfl ⟨_, _, rfl, rfl, .inl ⟨_, _, _, _, rfl, rfl⟩⟩ (Nat.le_of_ble_eq_true rfl) (Nat.le_of_ble_eq_true rfl) (P0.mono (e_X11_nextToken hT0 (en (Bt (a 1) fr n) p) (en_le hp) _ _ _ _ _ _) (Nat.le_of_ble_eq_true rfl) (Nat.zero_le _) (Nat.zero_le _) (fun _ _ q => q)) (Nat.le_of_ble_eq_true rfl) (fun _ _ q => q.len) ?_
        rintro _ _ ⟨w2, rfl, rfl, hw2⟩
        have hp2 := nx_le (f := a 1) (fr := fr) hp
        show P0 _ _ _ _ (61, [some (.ref 0), some (.int w.toInt32)], [], hT g a (nI fr) (nI n) (nI (en (Bt (a 1) fr n) (nx (Bt (a 1) fr n) p))) (kd (Bt (a 1) fr n) (nx (Bt (a 1) fr n) p)) (nI (nx (Bt (a 1) fr n) p)) w2 op 0 fl) _
        refine P0.b GX11_atom5 2 (ob := []) (cf' := (103, [some (.ref 0), some (.int w.toInt32)], [.int w.toInt32], hT g a (nI fr) (nI n) (nI (en (Bt (a 1) fr n) (nx (Bt (a 1) fr n) p))) (kd (Bt (a 1) fr n) (nx (Bt (a 1) fr n) p)) (nI (nx (Bt (a 1) fr n) p)) w2 op 0 fl)) rfl trivial ?_
        exact P0.ri (by decide +kernel) rfl rfl (QP.yes (pone_num h3 hw) hw2 hp2)
      · refine P0.b GX11_atom5 7 (ob := []) (cf' := (if kd (Bt (a 1) fr n) p = 1 then 79 else 98, [some (.ref 0), some (.int 0)], [], hT g a (nI fr) (nI n) (nI (en (Bt (a 1) fr n) p)) (kd (Bt (a 1) fr n) p) (nI p) w op 0 fl)) rfl trivial ?_
        refine P0.if (fun h4 => ?_) (fun h4 => ?_)
        · refine P0.b GX11_atom5 1 (ob := []) (cf' := (80, [some (.ref 0), some (.int 0)], [.ref 0], hT g a (nI fr) (nI n) (nI (en (Bt (a 1) fr n) p)) (kd (Bt (a 1) fr n) p) (nI p) w op 0 fl)) rfl trivial ?_
          refine P0.cs (as := [.ref 0]) (rest := []) GX11_name kX11_atom5_80 rfl ⟨_, _, rfl, rfl, .inl ⟨_, _, _, _, rfl, rfl⟩⟩ (Nat.le_of_ble_eq_true rfl) (Nat.le_of_ble_eq_true rfl) (P0.mono (e_X11_name hT0 hw hp h4) (Nat.le_of_ble_eq_true rfl) (Nat.zero_le _) (Nat.zero_le _) (fun _ _ q => q)) (Nat.le_of_ble_eq_true rfl) (fun _ _ q => by rcases q with ⟨_, _, rfl⟩ | ⟨_, _, rfl⟩ <;> exact hT_len.trans hT_len.symm) ?_
          rintro _ _ (⟨hN3, rfl, rfl⟩ | ⟨hN3, rfl, rfl⟩)
          · show P0 _ _ _ _ (83, [some (.ref 0), some (.int 0)], [.int (vNm g (sg (Bt (a 1) fr n) p))], hT g a (nI fr) (nI n) (nI (en (Bt (a 1) fr n) p)) (kd (Bt (a 1) fr n) p) (nI p) w op 0 fl) _
            refine P0.b GX11_atom5 5 (ob := []) (cf' := (92, [some (.ref 0), some (.int (vNm g (sg (Bt (a 1) fr n) p)))], [.ref 0], hT g a (nI fr) (nI n) (nI (en (Bt (a 1) fr n) p)) (kd (Bt (a 1) fr n) p) (nI p) w op 0 fl)) rfl trivial ?_
            refine P0.cs (as := [.ref 0]) (rest := []) GX11_nextToken kX11_atom5_92 rfl ⟨_, _, rfl, rfl, .inl ⟨_, _, _, _, rfl, rfl⟩⟩ (Nat.le_of_ble_eq_true rfl) (Nat.le_of_ble_eq_true rfl) (P0.mono (e_X11_nextToken hT0 (en (Bt (a 1) fr n) p) (en_le hp) _ _ _ _ _ _) (Nat.le_of_ble_eq_true rfl) (Nat.zero_le _) (Nat.zero_le _) (fun _ _ q => q)) (Nat.le_of_ble_eq_true rfl) (fun _ _ q => q.len) ?_
            rintro _ _ ⟨w4, rfl, rfl, hw4⟩
            have hp4 := nx_le (f := a 1) (fr := fr) hp
            show P0 _ _ _ _ (95, [some (.ref 0), some (.int (vNm g (sg (Bt (a 1) fr n) p)))], [], hT g a (nI fr) (nI n) (nI (en (Bt (a 1) fr n) (nx (Bt (a 1) fr n) p))) (kd (Bt (a 1) fr n) (nx (Bt (a 1) fr n) p)) (nI (nx (Bt (a 1) fr n) p)) w4 op 0 fl) _
            refine P0.b GX11_atom5 2 (ob := []) (cf' := (103, [some (.ref 0), some (.int (vNm g (sg (Bt (a 1) fr n) p)))], [.int (vNm g (sg (Bt (a 1) fr n) p))], hT g a (nI fr) (nI n) (nI (en (Bt (a 1) fr n) (nx (Bt (a 1) fr n) p))) (kd (Bt (a 1) fr n) (nx (Bt (a 1) fr n) p)) (nI (nx (Bt (a 1) fr n) p)) w4 op 0 fl)) rfl trivial ?_
            exact P0.ri (by decide +kernel) rfl rfl (QP.yes (pone_val hN3) hw4 hp4)
          · show P0 _ _ _ _ (83, [some (.ref 0), some (.int 0)], [.int 0], hT g a (nI fr) (nI n) (nI (en (Bt (a 1) fr n) p)) (kd (Bt (a 1) fr n) p) (nI p) w op 1 (nI p)) _
            refine P0.b GX11_atom5 5 (ob := []) (cf' := (103, [some (.ref 0), some (.int 0)], [.int 0], hT g a (nI fr) (nI n) (nI (en (Bt (a 1) fr n) p)) (kd (Bt (a 1) fr n) p) (nI p) w op 1 (nI p))) rfl trivial ?_
            exact P0.ri (by decide +kernel) rfl rfl (QP.no (pone_bad hN3 h1 h2) 0 (nI (en (Bt (a 1) fr n) p)) (kd (Bt (a 1) fr n) p) (nI p) w op)
        · refine P0.b GX11_atom5 1 (ob := []) (cf' := (99, [some (.ref 0), some (.int 0)], [.ref 0], hT g a (nI fr) (nI n) (nI (en (Bt (a 1) fr n) p)) (kd (Bt (a 1) fr n) p) (nI p) w op 0 fl)) rfl trivial ?_
          refine P0.cd (d0 := 0) (as := [.ref 0]) (rest := []) (r1 := none) (h1 := hT g a (nI fr) (nI n) (nI (en (Bt (a 1) fr n) p)) (kd (Bt (a 1) fr n) p) (nI p) w op 1 (nI p)) (st' := []) GX11_fail kX11_atom5_99 rfl ⟨_, _, rfl, rfl, .inl ⟨_, _, _, _, rfl, rfl⟩⟩ (Nat.le_of_ble_eq_true rfl) (Nat.le_of_ble_eq_true rfl) (e_fail_ok) (Nat.le_of_ble_eq_true rfl) rfl (Nat.le_of_ble_eq_true rfl) rfl ?_
          refine P0.b GX11_atom5 1 (ob := []) (cf' := (103, [some (.ref 0), some (.int 0)], [.int 0], hT g a (nI fr) (nI n) (nI (en (Bt (a 1) fr n) p)) (kd (Bt (a 1) fr n) p) (nI p) w op 1 (nI p))) rfl trivial ?_
          exact P0.ri (by decide +kernel) rfl rfl (QP.no (pone_bad (kdN h3 h4) h1 h2) 0 (nI (en (Bt (a 1) fr n) p)) (kd (Bt (a 1) fr n) p) (nI p) w op)
    · refine P0.b GX11_atom5 1 (ob := []) (cf' := (29, [some (.ref 0), some (.int 0)], [.ref 0], hT g a (nI fr) (nI n) (nI (en (Bt (a 1) fr n) p)) (kd (Bt (a 1) fr n) p) (nI p) w op 0 fl)) rfl trivial ?_
      refine P0.cd (d0 := 2) (as := [.ref 0]) (rest := []) (r1 := some (.int 0)) (h1 := hT g a (nI fr) (nI n) (nI (en (Bt (a 1) fr n) p)) (kd (Bt (a 1) fr n) p) (nI p) w op 1 (nI p)) (st' := [.int 0]) GX11_opens kX11_atom5_29 rfl ⟨_, _, rfl, rfl, .inl ⟨_, _, _, _, rfl, rfl⟩⟩ (Nat.le_of_ble_eq_true rfl) (Nat.le_of_ble_eq_true rfl) (e_opens_no hop) (Nat.le_of_ble_eq_true rfl) rfl (Nat.le_of_ble_eq_true rfl) rfl ?_
      refine P0.b GX11_atom5 3 (ob := []) (cf' := (103, [some (.ref 0), some (.int 0)], [.int 0], hT g a (nI fr) (nI n) (nI (en (Bt (a 1) fr n) p)) (kd (Bt (a 1) fr n) p) (nI p) w op 1 (nI p))) rfl trivial ?_
      exact P0.ri (by decide +kernel) rfl rfl (QP.no ((pone_par h2).trans rfl) 0 (nI (en (Bt (a 1) fr n) p)) (kd (Bt (a 1) fr n) p) (nI p) w op)
  · refine P0.b GX11_atom5 1 (ob := []) (cf' := (12, [some (.ref 0), some (.int 0)], [.ref 0], hT g a (nI fr) (nI n) (nI (en (Bt (a 1) fr n) p)) (kd (Bt (a 1) fr n) p) (nI p) w op 0 fl)) rfl trivial ?_
    refine P0.cd (d0 := 2) (as := [.ref 0]) (rest := []) (r1 := some (.int 0)) (h1 := hT g a (nI fr) (nI n) (nI (en (Bt (a 1) fr n) p)) (kd (Bt (a 1) fr n) p) (nI p) w op 1 (nI p)) (st' := [.int 0]) GX11_opens kX11_atom5_12 rfl ⟨_, _, rfl, rfl, .inl ⟨_, _, _, _, rfl, rfl⟩⟩ (Nat.le_of_ble_eq_true rfl) (Nat.le_of_ble_eq_true rfl) (e_opens_no hop) (Nat.le_of_ble_eq_true rfl) rfl (Nat.le_of_ble_eq_true rfl) rfl ?_
    refine P0.b GX11_atom5 3 (ob := []) (cf' := (103, [some (.ref 0), some (.int 0)], [.int 0], hT g a (nI fr) (nI n) (nI (en (Bt (a 1) fr n) p)) (kd (Bt (a 1) fr n) p) (nI p) w op 1 (nI p))) rfl trivial ?_
    exact P0.ri (by decide +kernel) rfl rfl (QP.no ((pone_neg h1).trans rfl) 0 (nI (en (Bt (a 1) fr n) p)) (kd (Bt (a 1) fr n) p) (nI p) w op)
