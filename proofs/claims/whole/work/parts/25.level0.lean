/-! ===== laid by program (wip/tools) ===== -/
set_option maxHeartbeats 2000000 in
theorem lp_X11_term5 {g : Nat → Int32} {a : Nat → Nat → Int32} {fr n : Nat} (hT0 : TxOK a fr n) {op : Int32} (hop : op = 5) : ∀ (f : Nat) (x : Int32) (p : Nat) (w : Int64) (fl : Int32), wOK (Bt (a 1) fr n) p w → p ≤ n → n ≤ p + f → P0 5 0 0 mX11_term5 (5, [some (.ref 0), some (.int x)], [], hT g a (nI fr) (nI n) (nI (en (Bt (a 1) fr n) p)) (kd (Bt (a 1) fr n) p) (nI p) w op 0 fl) (QP g a fr n op (pch (sg (Bt (a 1) fr n)) (nx (Bt (a 1) fr n)) (vA g).2.2 jTerm (pone (sg (Bt (a 1) fr n)) (nx (Bt (a 1) fr n)) (vA g) false .inl .inl) f x p))
  | 0, x, p, w, fl, hw, hp, hpf => by
    refine P0.b GX11_term5 2 (ob := []) (cf' := (8, [some (.ref 0), some (.int x)], [.int 42, .ref 0], hT g a (nI fr) (nI n) (nI (en (Bt (a 1) fr n) p)) (kd (Bt (a 1) fr n) p) (nI p) w op 0 fl)) rfl trivial ?_
    refine P0.cd (d0 := 0) (as := [.ref 0, .int 42]) (rest := []) (r1 := some (.int (if sg (Bt (a 1) fr n) p = (-18) then 1 else 0))) (h1 := hT g a (nI fr) (nI n) (nI (en (Bt (a 1) fr n) p)) (kd (Bt (a 1) fr n) p) (nI p) w op 0 fl) (st' := [.int (if sg (Bt (a 1) fr n) p = (-18) then 1 else 0)]) GX11_isSign kX11_term5_8 rfl ⟨_, _, rfl, rfl, .inl ⟨_, _, _, _, rfl, rfl⟩⟩ (Nat.le_of_ble_eq_true rfl) (Nat.le_of_ble_eq_true rfl) (e_isSign_ok hw (c := 42) (code := (-18)) (by decide +kernel)) (Nat.le_of_ble_eq_true rfl) rfl (Nat.le_of_ble_eq_true rfl) rfl ?_
    refine P0.b GX11_term5 1 (ob := []) (cf' := (if (if sg (Bt (a 1) fr n) p = (-18) then 1 else 0) = 0 then 28 else 14, [some (.ref 0), some (.int x)], [], hT g a (nI fr) (nI n) (nI (en (Bt (a 1) fr n) p)) (kd (Bt (a 1) fr n) p) (nI p) w op 0 fl)) rfl trivial ?_
    rw [if_neg (show ¬ (sg (Bt (a 1) fr n) p = (-18)) from by rw [sg_end hpf]; decide), if_pos rfl]
    refine P0.b GX11_term5 1 (ob := []) (cf' := (29, [some (.ref 0), some (.int x)], [.int x], hT g a (nI fr) (nI n) (nI (en (Bt (a 1) fr n) p)) (kd (Bt (a 1) fr n) p) (nI p) w op 0 fl)) rfl trivial ?_
    exact P0.ri (by decide +kernel) rfl rfl (QP.yes rfl hw hp)
  | f + 1, x, p, w, fl, hw, hp, hpf => by
    refine P0.b GX11_term5 2 (ob := []) (cf' := (8, [some (.ref 0), some (.int x)], [.int 42, .ref 0], hT g a (nI fr) (nI n) (nI (en (Bt (a 1) fr n) p)) (kd (Bt (a 1) fr n) p) (nI p) w op 0 fl)) rfl trivial ?_
    refine P0.cd (d0 := 0) (as := [.ref 0, .int 42]) (rest := []) (r1 := some (.int (if sg (Bt (a 1) fr n) p = (-18) then 1 else 0))) (h1 := hT g a (nI fr) (nI n) (nI (en (Bt (a 1) fr n) p)) (kd (Bt (a 1) fr n) p) (nI p) w op 0 fl) (st' := [.int (if sg (Bt (a 1) fr n) p = (-18) then 1 else 0)]) GX11_isSign kX11_term5_8 rfl ⟨_, _, rfl, rfl, .inl ⟨_, _, _, _, rfl, rfl⟩⟩ (Nat.le_of_ble_eq_true rfl) (Nat.le_of_ble_eq_true rfl) (e_isSign_ok hw (c := 42) (code := (-18)) (by decide +kernel)) (Nat.le_of_ble_eq_true rfl) rfl (Nat.le_of_ble_eq_true rfl) rfl ?_
    refine P0.b GX11_term5 1 (ob := []) (cf' := (if (if sg (Bt (a 1) fr n) p = (-18) then 1 else 0) = 0 then 28 else 14, [some (.ref 0), some (.int x)], [], hT g a (nI fr) (nI n) (nI (en (Bt (a 1) fr n) p)) (kd (Bt (a 1) fr n) p) (nI p) w op 0 fl)) rfl trivial ?_
    refine P0.ifB (fun h1 => ?_) (fun h1 => ?_)
    · refine P0.b GX11_term5 1 (ob := []) (cf' := (29, [some (.ref 0), some (.int x)], [.int x], hT g a (nI fr) (nI n) (nI (en (Bt (a 1) fr n) p)) (kd (Bt (a 1) fr n) p) (nI p) w op 0 fl)) rfl trivial ?_
      exact P0.ri (by decide +kernel) rfl rfl (QP.yes (pch_stop (show jTerm (sg (Bt (a 1) fr n) p) = false from by simp only [jTerm]; exact decide_eq_false h1)) hw hp)
    · refine P0.b GX11_term5 1 (ob := []) (cf' := (15, [some (.ref 0), some (.int x)], [.ref 0], hT g a (nI fr) (nI n) (nI (en (Bt (a 1) fr n) p)) (kd (Bt (a 1) fr n) p) (nI p) w op 0 fl)) rfl trivial ?_
      refine P0.cs (as := [.ref 0]) (rest := []) GX11_nextToken kX11_term5_15 rfl ⟨_, _, rfl, rfl, .inl ⟨_, _, _, _, rfl, rfl⟩⟩ (Nat.le_of_ble_eq_true rfl) (Nat.le_of_ble_eq_true rfl) (P0.mono (e_X11_nextToken hT0 (en (Bt (a 1) fr n) p) (en_le hp) _ _ _ _ _ _) (Nat.le_of_ble_eq_true rfl) (Nat.zero_le _) (Nat.zero_le _) (fun _ _ q => q)) (Nat.le_of_ble_eq_true rfl) (fun _ _ q => q.len) ?_
      rintro _ _ ⟨w1, rfl, rfl, hw1⟩
      have hp1 := nx_le (f := a 1) (fr := fr) hp
      show P0 _ _ _ _ (18, [some (.ref 0), some (.int x)], [], hT g a (nI fr) (nI n) (nI (en (Bt (a 1) fr n) (nx (Bt (a 1) fr n) p))) (kd (Bt (a 1) fr n) (nx (Bt (a 1) fr n) p)) (nI (nx (Bt (a 1) fr n) p)) w1 op 0 fl) _
      refine P0.b GX11_term5 2 (ob := []) (cf' := (20, [some (.ref 0), some (.int x)], [.ref 0, .int x], hT g a (nI fr) (nI n) (nI (en (Bt (a 1) fr n) (nx (Bt (a 1) fr n) p))) (kd (Bt (a 1) fr n) (nx (Bt (a 1) fr n) p)) (nI (nx (Bt (a 1) fr n) p)) w1 op 0 fl)) rfl trivial ?_
      refine P0.cs (as := [.ref 0]) (rest := [.int x]) GX11_atom5 kX11_term5_20 rfl ⟨_, _, rfl, rfl, .inl ⟨_, _, _, _, rfl, rfl⟩⟩ (Nat.le_of_ble_eq_true rfl) (Nat.le_of_ble_eq_true rfl) (P0.mono (e_X11_atom5 hT0 hw1 hp1 (op := op) hop) (Nat.le_of_ble_eq_true rfl) (Nat.zero_le _) (Nat.zero_le _) (fun _ _ q => q)) (Nat.le_of_ble_eq_true rfl) (fun _ _ q => q.len) ?_
      rintro r1002 h1002 hq2
      have hq2 : QP g a fr n op (pone (sg (Bt (a 1) fr n)) (nx (Bt (a 1) fr n)) (vA g) false .inl .inl (nx (Bt (a 1) fr n) p)) r1002 h1002 := hq2
      rcases hR2 : pone (sg (Bt (a 1) fr n)) (nx (Bt (a 1) fr n)) (vA g) false .inl .inl (nx (Bt (a 1) fr n) p) with q2 | ⟨x2, p2⟩
      · rw [hR2] at hq2
        obtain ⟨v2, e2, tk2, pp2, w2, op2, rfl, rfl⟩ := hq2
        show P0 _ _ _ _ (23, [some (.ref 0), some (.int x)], [.int v2, .int x], hT g a (nI fr) (nI n) e2 tk2 pp2 w2 op2 1 (nI q2)) _
        refine P0.b GX11_term5 3 (ob := []) (cf' := (5, [some (.ref 0), some (.int (x * v2))], [], hT g a (nI fr) (nI n) e2 tk2 pp2 w2 op2 1 (nI q2))) rfl trivial ?_
        refine P0.b GX11_term5 2 (ob := []) (cf' := (8, [some (.ref 0), some (.int (x * v2))], [.int 42, .ref 0], hT g a (nI fr) (nI n) e2 tk2 pp2 w2 op2 1 (nI q2))) rfl trivial ?_
        refine P0.cd (d0 := 0) (as := [.ref 0, .int 42]) (rest := []) (r1 := some (.int 0)) (h1 := hT g a (nI fr) (nI n) e2 tk2 pp2 w2 op2 1 (nI q2)) (st' := [.int 0]) GX11_isSign kX11_term5_8 rfl ⟨_, _, rfl, rfl, .inl ⟨_, _, _, _, rfl, rfl⟩⟩ (Nat.le_of_ble_eq_true rfl) (Nat.le_of_ble_eq_true rfl) (e_isSign_bad (c := 42)) (Nat.le_of_ble_eq_true rfl) rfl (Nat.le_of_ble_eq_true rfl) rfl ?_
        refine P0.b GX11_term5 2 (ob := []) (cf' := (29, [some (.ref 0), some (.int (x * v2))], [.int (x * v2)], hT g a (nI fr) (nI n) e2 tk2 pp2 w2 op2 1 (nI q2))) rfl trivial ?_
        exact P0.ri (by decide +kernel) rfl rfl (QP.no (pch_fail (show jTerm (sg (Bt (a 1) fr n) p) = true from by rw [h1]; decide) hR2) (x * v2) e2 tk2 pp2 w2 op2)
      · rw [hR2] at hq2
        obtain ⟨w2, fl2, rfl, rfl, hw2, hp2⟩ := hq2
        show P0 _ _ _ _ (23, [some (.ref 0), some (.int x)], [.int x2, .int x], hT g a (nI fr) (nI n) (nI (en (Bt (a 1) fr n) p2)) (kd (Bt (a 1) fr n) p2) (nI p2) w2 op 0 fl2) _
        refine P0.b GX11_term5 3 (ob := []) (cf' := (5, [some (.ref 0), some (.int (x * x2))], [], hT g a (nI fr) (nI n) (nI (en (Bt (a 1) fr n) p2)) (kd (Bt (a 1) fr n) p2) (nI p2) w2 op 0 fl2)) rfl trivial ?_
        rw [pch_step (show jTerm (sg (Bt (a 1) fr n) p) = true from by rw [h1]; decide) hR2, show (vA g).2.2 (sg (Bt (a 1) fr n) p) x x2 = (x * x2) from by rw [h1]; rfl]
        exact lp_X11_term5 hT0 hop f _ _ _ _ hw2 hp2 (by have h1 := nx_lt (B := (Bt (a 1) fr n)) (p := p) (by rw [h1]; decide) (by rw [h1]; decide); have h2 := (prog_one nx_lt prog_inl prog_inl) _ _ _ hR2; omega)
set_option maxHeartbeats 2000000 in
theorem e_X11_term5 {g : Nat → Int32} {a : Nat → Nat → Int32} {fr n : Nat} (hT0 : TxOK a fr n) {p : Nat} {w : Int64} {fl : Int32} (hw : wOK (Bt (a 1) fr n) p w) (hp : p ≤ n) {op : Int32} (hop : op = 5) : P0 5 0 0 mX11_term5 (0, ent 2 [.ref 0], [], hT g a (nI fr) (nI n) (nI (en (Bt (a 1) fr n) p)) (kd (Bt (a 1) fr n) p) (nI p) w op 0 fl) (QP g a fr n op (pterm (sg (Bt (a 1) fr n)) (nx (Bt (a 1) fr n)) (vA g) false .inl .inl p)) := by
  show P0 _ _ _ _ _ (QP g a fr n op (pc0 (sg (Bt (a 1) fr n)) (nx (Bt (a 1) fr n)) (vA g).2.2 jTerm (pone (sg (Bt (a 1) fr n)) (nx (Bt (a 1) fr n)) (vA g) false .inl .inl) p))
  refine P0.b GX11_term5 1 (ob := []) (cf' := (1, [some (.ref 0), none], [.ref 0], hT g a (nI fr) (nI n) (nI (en (Bt (a 1) fr n) p)) (kd (Bt (a 1) fr n) p) (nI p) w op 0 fl)) rfl trivial ?_
  refine P0.cs (as := [.ref 0]) (rest := []) GX11_atom5 kX11_term5_1 rfl ⟨_, _, rfl, rfl, .inl ⟨_, _, _, _, rfl, rfl⟩⟩ (Nat.le_of_ble_eq_true rfl) (Nat.le_of_ble_eq_true rfl) (P0.mono (e_X11_atom5 hT0 hw hp (op := op) hop) (Nat.le_of_ble_eq_true rfl) (Nat.zero_le _) (Nat.zero_le _) (fun _ _ q => q)) (Nat.le_of_ble_eq_true rfl) (fun _ _ q => q.len) ?_
  rintro r1003 h1003 hq3
  have hq3 : QP g a fr n op (pone (sg (Bt (a 1) fr n)) (nx (Bt (a 1) fr n)) (vA g) false .inl .inl p) r1003 h1003 := hq3
  rcases hR3 : pone (sg (Bt (a 1) fr n)) (nx (Bt (a 1) fr n)) (vA g) false .inl .inl p with q3 | ⟨x3, p3⟩
  · rw [hR3] at hq3
    obtain ⟨v3, e3, tk3, pp3, w3, op3, rfl, rfl⟩ := hq3
    show P0 _ _ _ _ (4, [some (.ref 0), none], [.int v3], hT g a (nI fr) (nI n) e3 tk3 pp3 w3 op3 1 (nI q3)) _
    refine P0.b GX11_term5 1 (ob := []) (cf' := (5, [some (.ref 0), some (.int v3)], [], hT g a (nI fr) (nI n) e3 tk3 pp3 w3 op3 1 (nI q3))) rfl trivial ?_
    refine P0.b GX11_term5 2 (ob := []) (cf' := (8, [some (.ref 0), some (.int v3)], [.int 42, .ref 0], hT g a (nI fr) (nI n) e3 tk3 pp3 w3 op3 1 (nI q3))) rfl trivial ?_
    refine P0.cd (d0 := 0) (as := [.ref 0, .int 42]) (rest := []) (r1 := some (.int 0)) (h1 := hT g a (nI fr) (nI n) e3 tk3 pp3 w3 op3 1 (nI q3)) (st' := [.int 0]) GX11_isSign kX11_term5_8 rfl ⟨_, _, rfl, rfl, .inl ⟨_, _, _, _, rfl, rfl⟩⟩ (Nat.le_of_ble_eq_true rfl) (Nat.le_of_ble_eq_true rfl) (e_isSign_bad (c := 42)) (Nat.le_of_ble_eq_true rfl) rfl (Nat.le_of_ble_eq_true rfl) rfl ?_
    refine P0.b GX11_term5 2 (ob := []) (cf' := (29, [some (.ref 0), some (.int v3)], [.int v3], hT g a (nI fr) (nI n) e3 tk3 pp3 w3 op3 1 (nI q3))) rfl trivial ?_
    exact P0.ri (by decide +kernel) rfl rfl (QP.no (pc0_no hR3) v3 e3 tk3 pp3 w3 op3)
  · rw [hR3] at hq3
    obtain ⟨w3, fl3, rfl, rfl, hw3, hp3⟩ := hq3
    show P0 _ _ _ _ (4, [some (.ref 0), none], [.int x3], hT g a (nI fr) (nI n) (nI (en (Bt (a 1) fr n) p3)) (kd (Bt (a 1) fr n) p3) (nI p3) w3 op 0 fl3) _
    refine P0.b GX11_term5 1 (ob := []) (cf' := (5, [some (.ref 0), some (.int x3)], [], hT g a (nI fr) (nI n) (nI (en (Bt (a 1) fr n) p3)) (kd (Bt (a 1) fr n) p3) (nI p3) w3 op 0 fl3)) rfl trivial ?_
    rw [pc0_yes hR3]
    exact lp_X11_term5 hT0 hop 200 _ _ _ _ hw3 hp3 (by have := hT0.2.1; omega)
set_option maxHeartbeats 2000000 in
theorem lp_X11_added5 {g : Nat → Int32} {a : Nat → Nat → Int32} {fr n : Nat} (hT0 : TxOK a fr n) {op : Int32} (hop : op = 5) : ∀ (f : Nat) (x : Int32) (p : Nat) (w : Int64) (fl : Int32), wOK (Bt (a 1) fr n) p w → p ≤ n → n ≤ p + f → P0 6 0 0 mX11_added5 (5, [some (.ref 0), some (.int x), none, none], [], hT g a (nI fr) (nI n) (nI (en (Bt (a 1) fr n) p)) (kd (Bt (a 1) fr n) p) (nI p) w op 0 fl) (QP g a fr n op (pch (sg (Bt (a 1) fr n)) (nx (Bt (a 1) fr n)) (vA g).2.2 jSum (pterm (sg (Bt (a 1) fr n)) (nx (Bt (a 1) fr n)) (vA g) false .inl .inl) f x p))
  | 0, x, p, w, fl, hw, hp, hpf => by
    refine P0.b GX11_added5 2 (ob := []) (cf' := (8, [some (.ref 0), some (.int x), none, none], [.int 43, .ref 0], hT g a (nI fr) (nI n) (nI (en (Bt (a 1) fr n) p)) (kd (Bt (a 1) fr n) p) (nI p) w op 0 fl)) rfl trivial ?_
    refine P0.cd (d0 := 0) (as := [.ref 0, .int 43]) (rest := []) (r1 := some (.int (if sg (Bt (a 1) fr n) p = (-16) then 1 else 0))) (h1 := hT g a (nI fr) (nI n) (nI (en (Bt (a 1) fr n) p)) (kd (Bt (a 1) fr n) p) (nI p) w op 0 fl) (st' := [.int (if sg (Bt (a 1) fr n) p = (-16) then 1 else 0)]) GX11_isSign kX11_added5_8 rfl ⟨_, _, rfl, rfl, .inl ⟨_, _, _, _, rfl, rfl⟩⟩ (Nat.le_of_ble_eq_true rfl) (Nat.le_of_ble_eq_true rfl) (e_isSign_ok hw (c := 43) (code := (-16)) (by decide +kernel)) (Nat.le_of_ble_eq_true rfl) rfl (Nat.le_of_ble_eq_true rfl) rfl ?_
    refine P0.b GX11_added5 1 (ob := []) (cf' := (if (if sg (Bt (a 1) fr n) p = (-16) then 1 else 0) = 0 then 14 else 23, [some (.ref 0), some (.int x), none, none], [], hT g a (nI fr) (nI n) (nI (en (Bt (a 1) fr n) p)) (kd (Bt (a 1) fr n) p) (nI p) w op 0 fl)) rfl trivial ?_
    rw [if_neg (show ¬ (sg (Bt (a 1) fr n) p = (-16)) from by rw [sg_end hpf]; decide), if_pos rfl]
    refine P0.b GX11_added5 2 (ob := []) (cf' := (17, [some (.ref 0), some (.int x), none, none], [.int 45, .ref 0], hT g a (nI fr) (nI n) (nI (en (Bt (a 1) fr n) p)) (kd (Bt (a 1) fr n) p) (nI p) w op 0 fl)) rfl trivial ?_
    refine P0.cd (d0 := 0) (as := [.ref 0, .int 45]) (rest := []) (r1 := some (.int (if sg (Bt (a 1) fr n) p = (-17) then 1 else 0))) (h1 := hT g a (nI fr) (nI n) (nI (en (Bt (a 1) fr n) p)) (kd (Bt (a 1) fr n) p) (nI p) w op 0 fl) (st' := [.int (if sg (Bt (a 1) fr n) p = (-17) then 1 else 0)]) GX11_isSign kX11_added5_17 rfl ⟨_, _, rfl, rfl, .inl ⟨_, _, _, _, rfl, rfl⟩⟩ (Nat.le_of_ble_eq_true rfl) (Nat.le_of_ble_eq_true rfl) (e_isSign_ok hw (c := 45) (code := (-17)) (by decide +kernel)) (Nat.le_of_ble_eq_true rfl) rfl (Nat.le_of_ble_eq_true rfl) rfl ?_
    refine P0.b GX11_added5 1 (ob := []) (cf' := (if (if sg (Bt (a 1) fr n) p = (-17) then 1 else 0) = 0 then 66 else 23, [some (.ref 0), some (.int x), none, none], [], hT g a (nI fr) (nI n) (nI (en (Bt (a 1) fr n) p)) (kd (Bt (a 1) fr n) p) (nI p) w op 0 fl)) rfl trivial ?_
    rw [if_neg (show ¬ (sg (Bt (a 1) fr n) p = (-17)) from by rw [sg_end hpf]; decide), if_pos rfl]
    refine P0.b GX11_added5 1 (ob := []) (cf' := (67, [some (.ref 0), some (.int x), none, none], [.int x], hT g a (nI fr) (nI n) (nI (en (Bt (a 1) fr n) p)) (kd (Bt (a 1) fr n) p) (nI p) w op 0 fl)) rfl trivial ?_
    exact P0.ri (by decide +kernel) rfl rfl (QP.yes rfl hw hp)
  | f + 1, x, p, w, fl, hw, hp, hpf => by
    refine P0.b GX11_added5 2 (ob := []) (cf' := (8, [some (.ref 0), some (.int x), none, none], [.int 43, .ref 0], hT g a (nI fr) (nI n) (nI (en (Bt (a 1) fr n) p)) (kd (Bt (a 1) fr n) p) (nI p) w op 0 fl)) rfl trivial ?_
    refine P0.cd (d0 := 0) (as := [.ref 0, .int 43]) (rest := []) (r1 := some (.int (if sg (Bt (a 1) fr n) p = (-16) then 1 else 0))) (h1 := hT g a (nI fr) (nI n) (nI (en (Bt (a 1) fr n) p)) (kd (Bt (a 1) fr n) p) (nI p) w op 0 fl) (st' := [.int (if sg (Bt (a 1) fr n) p = (-16) then 1 else 0)]) GX11_isSign kX11_added5_8 rfl ⟨_, _, rfl, rfl, .inl ⟨_, _, _, _, rfl, rfl⟩⟩ (Nat.le_of_ble_eq_true rfl) (Nat.le_of_ble_eq_true rfl) (e_isSign_ok hw (c := 43) (code := (-16)) (by decide +kernel)) (Nat.le_of_ble_eq_true rfl) rfl (Nat.le_of_ble_eq_true rfl) rfl ?_
    refine P0.b GX11_added5 1 (ob := []) (cf' := (if (if sg (Bt (a 1) fr n) p = (-16) then 1 else 0) = 0 then 14 else 23, [some (.ref 0), some (.int x), none, none], [], hT g a (nI fr) (nI n) (nI (en (Bt (a 1) fr n) p)) (kd (Bt (a 1) fr n) p) (nI p) w op 0 fl)) rfl trivial ?_
    refine P0.ifB (fun h1 => ?_) (fun h1 => ?_)
    · refine P0.b GX11_added5 2 (ob := []) (cf' := (17, [some (.ref 0), some (.int x), none, none], [.int 45, .ref 0], hT g a (nI fr) (nI n) (nI (en (Bt (a 1) fr n) p)) (kd (Bt (a 1) fr n) p) (nI p) w op 0 fl)) rfl trivial ?_
      refine P0.cd (d0 := 0) (as := [.ref 0, .int 45]) (rest := []) (r1 := some (.int (if sg (Bt (a 1) fr n) p = (-17) then 1 else 0))) (h1 := hT g a (nI fr) (nI n) (nI (en (Bt (a 1) fr n) p)) (kd (Bt (a 1) fr n) p) (nI p) w op 0 fl) (st' := [.int (if sg (Bt (a 1) fr n) p = (-17) then 1 else 0)]) GX11_isSign kX11_added5_17 rfl ⟨_, _, rfl, rfl, .inl ⟨_, _, _, _, rfl, rfl⟩⟩ (Nat.le_of_ble_eq_true rfl) (Nat.le_of_ble_eq_true rfl) (e_isSign_ok hw (c := 45) (code := (-17)) (by decide +kernel)) (Nat.le_of_ble_eq_true rfl) rfl (Nat.le_of_ble_eq_true rfl) rfl ?_
      refine P0.b GX11_added5 1 (ob := []) (cf' := (if (if sg (Bt (a 1) fr n) p = (-17) then 1 else 0) = 0 then 66 else 23, [some (.ref 0), some (.int x), none, none], [], hT g a (nI fr) (nI n) (nI (en (Bt (a 1) fr n) p)) (kd (Bt (a 1) fr n) p) (nI p) w op 0 fl)) rfl trivial ?_
      refine P0.ifB (fun h2 => ?_) (fun h2 => ?_)
      · refine P0.b GX11_added5 1 (ob := []) (cf' := (67, [some (.ref 0), some (.int x), none, none], [.int x], hT g a (nI fr) (nI n) (nI (en (Bt (a 1) fr n) p)) (kd (Bt (a 1) fr n) p) (nI p) w op 0 fl)) rfl trivial ?_
        exact P0.ri (by decide +kernel) rfl rfl (QP.yes (pch_stop (show jSum (sg (Bt (a 1) fr n) p) = false from by simp only [jSum]; exact decide_eq_false (fun z => z.elim h1 h2))) hw hp)
      · refine P0.b GX11_added5 5 (ob := []) (cf' := (if lg_cmp w 43 = 0 then 34 else 38, [some (.ref 0), some (.int x), none, none], [], hT g a (nI fr) (nI n) (nI (en (Bt (a 1) fr n) p)) (kd (Bt (a 1) fr n) p) (nI p) w op 0 fl)) rfl trivial ?_
        rw [if_neg (show ¬ (lg_cmp w 43 = 0) from by rw [sB_of (c := 45) (code := -17) (by decide +kernel) h2 hw]; decide)]
        refine P0.b GX11_added5 3 (ob := []) (cf' := (41, [some (.ref 0), some (.int x), some (.int 0), none], [.ref 0], hT g a (nI fr) (nI n) (nI (en (Bt (a 1) fr n) p)) (kd (Bt (a 1) fr n) p) (nI p) w op 0 fl)) rfl trivial ?_
        refine P0.cs (as := [.ref 0]) (rest := []) GX11_nextToken kX11_added5_41 rfl ⟨_, _, rfl, rfl, .inl ⟨_, _, _, _, rfl, rfl⟩⟩ (Nat.le_of_ble_eq_true rfl) (Nat.le_of_ble_eq_true rfl) (P0.mono (e_X11_nextToken hT0 (en (Bt (a 1) fr n) p) (en_le hp) _ _ _ _ _ _) (Nat.le_of_ble_eq_true rfl) (Nat.zero_le _) (Nat.zero_le _) (fun _ _ q => q)) (Nat.le_of_ble_eq_true rfl) (fun _ _ q => q.len) ?_
        rintro _ _ ⟨w4, rfl, rfl, hw4⟩
        have hp4 := nx_le (f := a 1) (fr := fr) hp
        show P0 _ _ _ _ (44, [some (.ref 0), some (.int x), some (.int 0), none], [], hT g a (nI fr) (nI n) (nI (en (Bt (a 1) fr n) (nx (Bt (a 1) fr n) p))) (kd (Bt (a 1) fr n) (nx (Bt (a 1) fr n) p)) (nI (nx (Bt (a 1) fr n) p)) w4 op 0 fl) _
        refine P0.b GX11_added5 1 (ob := []) (cf' := (45, [some (.ref 0), some (.int x), some (.int 0), none], [.ref 0], hT g a (nI fr) (nI n) (nI (en (Bt (a 1) fr n) (nx (Bt (a 1) fr n) p))) (kd (Bt (a 1) fr n) (nx (Bt (a 1) fr n) p)) (nI (nx (Bt (a 1) fr n) p)) w4 op 0 fl)) rfl trivial ?_
        refine P0.cs (as := [.ref 0]) (rest := []) GX11_term5 kX11_added5_45 rfl ⟨_, _, rfl, rfl, .inl ⟨_, _, _, _, rfl, rfl⟩⟩ (Nat.le_of_ble_eq_true rfl) (Nat.le_of_ble_eq_true rfl) (P0.mono (e_X11_term5 hT0 hw4 hp4 (op := op) hop) (Nat.le_of_ble_eq_true rfl) (Nat.zero_le _) (Nat.zero_le _) (fun _ _ q => q)) (Nat.le_of_ble_eq_true rfl) (fun _ _ q => q.len) ?_
        rintro r1005 h1005 hq5
        have hq5 : QP g a fr n op (pterm (sg (Bt (a 1) fr n)) (nx (Bt (a 1) fr n)) (vA g) false .inl .inl (nx (Bt (a 1) fr n) p)) r1005 h1005 := hq5
        rcases hR5 : pterm (sg (Bt (a 1) fr n)) (nx (Bt (a 1) fr n)) (vA g) false .inl .inl (nx (Bt (a 1) fr n) p) with q5 | ⟨x5, p5⟩
        · rw [hR5] at hq5
          obtain ⟨v5, e5, tk5, pp5, w5, op5, rfl, rfl⟩ := hq5
          show P0 _ _ _ _ (48, [some (.ref 0), some (.int x), some (.int 0), none], [.int v5], hT g a (nI fr) (nI n) e5 tk5 pp5 w5 op5 1 (nI q5)) _
          refine P0.b GX11_added5 8 (ob := []) (cf' := (5, [some (.ref 0), some (.int (x - v5)), some (.int 0), some (.int v5)], [], hT g a (nI fr) (nI n) e5 tk5 pp5 w5 op5 1 (nI q5))) rfl trivial ?_
          refine P0.b GX11_added5 2 (ob := []) (cf' := (8, [some (.ref 0), some (.int (x - v5)), some (.int 0), some (.int v5)], [.int 43, .ref 0], hT g a (nI fr) (nI n) e5 tk5 pp5 w5 op5 1 (nI q5))) rfl trivial ?_
          refine P0.cd (d0 := 0) (as := [.ref 0, .int 43]) (rest := []) (r1 := some (.int 0)) (h1 := hT g a (nI fr) (nI n) e5 tk5 pp5 w5 op5 1 (nI q5)) (st' := [.int 0]) GX11_isSign kX11_added5_8 rfl ⟨_, _, rfl, rfl, .inl ⟨_, _, _, _, rfl, rfl⟩⟩ (Nat.le_of_ble_eq_true rfl) (Nat.le_of_ble_eq_true rfl) (e_isSign_bad (c := 43)) (Nat.le_of_ble_eq_true rfl) rfl (Nat.le_of_ble_eq_true rfl) rfl ?_
          refine P0.b GX11_added5 3 (ob := []) (cf' := (17, [some (.ref 0), some (.int (x - v5)), some (.int 0), some (.int v5)], [.int 45, .ref 0], hT g a (nI fr) (nI n) e5 tk5 pp5 w5 op5 1 (nI q5))) rfl trivial ?_
          refine P0.cd (d0 := 0) (as := [.ref 0, .int 45]) (rest := []) (r1 := some (.int 0)) (h1 := hT g a (nI fr) (nI n) e5 tk5 pp5 w5 op5 1 (nI q5)) (st' := [.int 0]) GX11_isSign kX11_added5_17 rfl ⟨_, _, rfl, rfl, .inl ⟨_, _, _, _, rfl, rfl⟩⟩ (Nat.le_of_ble_eq_true rfl) (Nat.le_of_ble_eq_true rfl) (e_isSign_bad (c := 45)) (Nat.le_of_ble_eq_true rfl) rfl (Nat.le_of_ble_eq_true rfl) rfl ?_
          refine P0.b GX11_added5 2 (ob := []) (cf' := (67, [some (.ref 0), some (.int (x - v5)), some (.int 0), some (.int v5)], [.int (x - v5)], hT g a (nI fr) (nI n) e5 tk5 pp5 w5 op5 1 (nI q5))) rfl trivial ?_
          exact P0.ri (by decide +kernel) rfl rfl (QP.no (pch_fail (show jSum (sg (Bt (a 1) fr n) p) = true from by rw [h2]; decide) hR5) (x - v5) e5 tk5 pp5 w5 op5)
        · rw [hR5] at hq5
          obtain ⟨w5, fl5, rfl, rfl, hw5, hp5⟩ := hq5
          show P0 _ _ _ _ (48, [some (.ref 0), some (.int x), some (.int 0), none], [.int x5], hT g a (nI fr) (nI n) (nI (en (Bt (a 1) fr n) p5)) (kd (Bt (a 1) fr n) p5) (nI p5) w5 op 0 fl5) _
          refine P0.b GX11_added5 8 (ob := []) (cf' := (5, [some (.ref 0), some (.int (x - x5)), some (.int 0), some (.int x5)], [], hT g a (nI fr) (nI n) (nI (en (Bt (a 1) fr n) p5)) (kd (Bt (a 1) fr n) p5) (nI p5) w5 op 0 fl5)) rfl trivial ?_
          rw [pch_step (show jSum (sg (Bt (a 1) fr n) p) = true from by rw [h2]; decide) hR5, show (vA g).2.2 (sg (Bt (a 1) fr n) p) x x5 = (x - x5) from by rw [h2]; rfl]
          refine P0.forget (ls' := [some (.ref 0), some (.int (x - x5)), none, none]) ⟨.inr rfl, .inr rfl, .inl rfl, .inl rfl, trivial⟩ ?_
          exact lp_X11_added5 hT0 hop f _ _ _ _ hw5 hp5 (by have h1 := nx_lt (B := (Bt (a 1) fr n)) (p := p) (by rw [h2]; decide) (by rw [h2]; decide); have h2 := (prog_c0 nx_lt jT_ok (prog_one nx_lt prog_inl prog_inl)) _ _ _ hR5; omega)
    · refine P0.b GX11_added5 5 (ob := []) (cf' := (if lg_cmp w 43 = 0 then 34 else 38, [some (.ref 0), some (.int x), none, none], [], hT g a (nI fr) (nI n) (nI (en (Bt (a 1) fr n) p)) (kd (Bt (a 1) fr n) p) (nI p) w op 0 fl)) rfl trivial ?_
      rw [if_pos (show lg_cmp w 43 = 0 from (lgc_eq _ _).mpr (sB_of (c := 43) (code := -16) (by decide +kernel) h1 hw))]
      refine P0.b GX11_added5 4 (ob := []) (cf' := (41, [some (.ref 0), some (.int x), some (.int 1), none], [.ref 0], hT g a (nI fr) (nI n) (nI (en (Bt (a 1) fr n) p)) (kd (Bt (a 1) fr n) p) (nI p) w op 0 fl)) rfl trivial ?_
      refine P0.cs (as := [.ref 0]) (rest := []) GX11_nextToken kX11_added5_41 rfl ⟨_, _, rfl, rfl, .inl ⟨_, _, _, _, rfl, rfl⟩⟩ (Nat.le_of_ble_eq_true rfl) (Nat.le_of_ble_eq_true rfl) (P0.mono (e_X11_nextToken hT0 (en (Bt (a 1) fr n) p) (en_le hp) _ _ _ _ _ _) (Nat.le_of_ble_eq_true rfl) (Nat.zero_le _) (Nat.zero_le _) (fun _ _ q => q)) (Nat.le_of_ble_eq_true rfl) (fun _ _ q => q.len) ?_
      rintro _ _ ⟨w6, rfl, rfl, hw6⟩
      have hp6 := nx_le (f := a 1) (fr := fr) hp
      show P0 _ _ _ _ (44, [some (.ref 0), some (.int x), some (.int 1), none], [], hT g a (nI fr) (nI n) (nI (en (Bt (a 1) fr n) (nx (Bt (a 1) fr n) p))) (kd (Bt (a 1) fr n) (nx (Bt (a 1) fr n) p)) (nI (nx (Bt (a 1) fr n) p)) w6 op 0 fl) _
      refine P0.b GX11_added5 1 (ob := []) (cf' := (45, [some (.ref 0), some (.int x), some (.int 1), none], [.ref 0], hT g a (nI fr) (nI n) (nI (en (Bt (a 1) fr n) (nx (Bt (a 1) fr n) p))) (kd (Bt (a 1) fr n) (nx (Bt (a 1) fr n) p)) (nI (nx (Bt (a 1) fr n) p)) w6 op 0 fl)) rfl trivial ?_
      refine P0.cs (as := [.ref 0]) (rest := []) GX11_term5 kX11_added5_45 rfl ⟨_, _, rfl, rfl, .inl ⟨_, _, _, _, rfl, rfl⟩⟩ (Nat.le_of_ble_eq_true rfl) (Nat.le_of_ble_eq_true rfl) (P0.mono (e_X11_term5 hT0 hw6 hp6 (op := op) hop) (Nat.le_of_ble_eq_true rfl) (Nat.zero_le _) (Nat.zero_le _) (fun _ _ q => q)) (Nat.le_of_ble_eq_true rfl) (fun _ _ q => q.len) ?_
      rintro r1007 h1007 hq7
      have hq7 : QP g a fr n op (pterm (sg (Bt (a 1) fr n)) (nx (Bt (a 1) fr n)) (vA g) false .inl .inl (nx (Bt (a 1) fr n) p)) r1007 h1007 := hq7
      rcases hR7 : pterm (sg (Bt (a 1) fr n)) (nx (Bt (a 1) fr n)) (vA g) false .inl .inl (nx (Bt (a 1) fr n) p) with q7 | ⟨x7, p7⟩
      · rw [hR7] at hq7
        obtain ⟨v7, e7, tk7, pp7, w7, op7, rfl, rfl⟩ := hq7
        show P0 _ _ _ _ (48, [some (.ref 0), some (.int x), some (.int 1), none], [.int v7], hT g a (nI fr) (nI n) e7 tk7 pp7 w7 op7 1 (nI q7)) _
        refine P0.b GX11_added5 9 (ob := []) (cf' := (5, [some (.ref 0), some (.int (x + v7)), some (.int 1), some (.int v7)], [], hT g a (nI fr) (nI n) e7 tk7 pp7 w7 op7 1 (nI q7))) rfl trivial ?_
        refine P0.b GX11_added5 2 (ob := []) (cf' := (8, [some (.ref 0), some (.int (x + v7)), some (.int 1), some (.int v7)], [.int 43, .ref 0], hT g a (nI fr) (nI n) e7 tk7 pp7 w7 op7 1 (nI q7))) rfl trivial ?_
        refine P0.cd (d0 := 0) (as := [.ref 0, .int 43]) (rest := []) (r1 := some (.int 0)) (h1 := hT g a (nI fr) (nI n) e7 tk7 pp7 w7 op7 1 (nI q7)) (st' := [.int 0]) GX11_isSign kX11_added5_8 rfl ⟨_, _, rfl, rfl, .inl ⟨_, _, _, _, rfl, rfl⟩⟩ (Nat.le_of_ble_eq_true rfl) (Nat.le_of_ble_eq_true rfl) (e_isSign_bad (c := 43)) (Nat.le_of_ble_eq_true rfl) rfl (Nat.le_of_ble_eq_true rfl) rfl ?_
        refine P0.b GX11_added5 3 (ob := []) (cf' := (17, [some (.ref 0), some (.int (x + v7)), some (.int 1), some (.int v7)], [.int 45, .ref 0], hT g a (nI fr) (nI n) e7 tk7 pp7 w7 op7 1 (nI q7))) rfl trivial ?_
        refine P0.cd (d0 := 0) (as := [.ref 0, .int 45]) (rest := []) (r1 := some (.int 0)) (h1 := hT g a (nI fr) (nI n) e7 tk7 pp7 w7 op7 1 (nI q7)) (st' := [.int 0]) GX11_isSign kX11_added5_17 rfl ⟨_, _, rfl, rfl, .inl ⟨_, _, _, _, rfl, rfl⟩⟩ (Nat.le_of_ble_eq_true rfl) (Nat.le_of_ble_eq_true rfl) (e_isSign_bad (c := 45)) (Nat.le_of_ble_eq_true rfl) rfl (Nat.le_of_ble_eq_true rfl) rfl ?_
        refine P0.b GX11_added5 2 (ob := []) (cf' := (67, [some (.ref 0), some (.int (x + v7)), some (.int 1), some (.int v7)], [.int (x + v7)], hT g a (nI fr) (nI n) e7 tk7 pp7 w7 op7 1 (nI q7))) rfl trivial ?_
        exact P0.ri (by decide +kernel) rfl rfl (QP.no (pch_fail (show jSum (sg (Bt (a 1) fr n) p) = true from by rw [h1]; decide) hR7) (x + v7) e7 tk7 pp7 w7 op7)
      · rw [hR7] at hq7
        obtain ⟨w7, fl7, rfl, rfl, hw7, hp7⟩ := hq7
        show P0 _ _ _ _ (48, [some (.ref 0), some (.int x), some (.int 1), none], [.int x7], hT g a (nI fr) (nI n) (nI (en (Bt (a 1) fr n) p7)) (kd (Bt (a 1) fr n) p7) (nI p7) w7 op 0 fl7) _
        refine P0.b GX11_added5 9 (ob := []) (cf' := (5, [some (.ref 0), some (.int (x + x7)), some (.int 1), some (.int x7)], [], hT g a (nI fr) (nI n) (nI (en (Bt (a 1) fr n) p7)) (kd (Bt (a 1) fr n) p7) (nI p7) w7 op 0 fl7)) rfl trivial ?_
        rw [pch_step (show jSum (sg (Bt (a 1) fr n) p) = true from by rw [h1]; decide) hR7, show (vA g).2.2 (sg (Bt (a 1) fr n) p) x x7 = (x + x7) from by rw [h1]; rfl]
        refine P0.forget (ls' := [some (.ref 0), some (.int (x + x7)), none, none]) ⟨.inr rfl, .inr rfl, .inl rfl, .inl rfl, trivial⟩ ?_
        exact lp_X11_added5 hT0 hop f _ _ _ _ hw7 hp7 (by have h1 := nx_lt (B := (Bt (a 1) fr n)) (p := p) (by rw [h1]; decide) (by rw [h1]; decide); have h2 := (prog_c0 nx_lt jT_ok (prog_one nx_lt prog_inl prog_inl)) _ _ _ hR7; omega)
set_option maxHeartbeats 2000000 in
theorem e_X11_added5 {g : Nat → Int32} {a : Nat → Nat → Int32} {fr n : Nat} (hT0 : TxOK a fr n) {p : Nat} {w : Int64} {fl : Int32} (hw : wOK (Bt (a 1) fr n) p w) (hp : p ≤ n) {op : Int32} (hop : op = 5) : P0 6 0 0 mX11_added5 (0, ent 4 [.ref 0], [], hT g a (nI fr) (nI n) (nI (en (Bt (a 1) fr n) p)) (kd (Bt (a 1) fr n) p) (nI p) w op 0 fl) (QP g a fr n op (psum (sg (Bt (a 1) fr n)) (nx (Bt (a 1) fr n)) (vA g) false .inl .inl p)) := by
  show P0 _ _ _ _ _ (QP g a fr n op (pc0 (sg (Bt (a 1) fr n)) (nx (Bt (a 1) fr n)) (vA g).2.2 jSum (pterm (sg (Bt (a 1) fr n)) (nx (Bt (a 1) fr n)) (vA g) false .inl .inl) p))
  refine P0.b GX11_added5 1 (ob := []) (cf' := (1, [some (.ref 0), none, none, none], [.ref 0], hT g a (nI fr) (nI n) (nI (en (Bt (a 1) fr n) p)) (kd (Bt (a 1) fr n) p) (nI p) w op 0 fl)) rfl trivial ?_
  refine P0.cs (as := [.ref 0]) (rest := []) GX11_term5 kX11_added5_1 rfl ⟨_, _, rfl, rfl, .inl ⟨_, _, _, _, rfl, rfl⟩⟩ (Nat.le_of_ble_eq_true rfl) (Nat.le_of_ble_eq_true rfl) (P0.mono (e_X11_term5 hT0 hw hp (op := op) hop) (Nat.le_of_ble_eq_true rfl) (Nat.zero_le _) (Nat.zero_le _) (fun _ _ q => q)) (Nat.le_of_ble_eq_true rfl) (fun _ _ q => q.len) ?_
  rintro r1008 h1008 hq8
  have hq8 : QP g a fr n op (pterm (sg (Bt (a 1) fr n)) (nx (Bt (a 1) fr n)) (vA g) false .inl .inl p) r1008 h1008 := hq8
  rcases hR8 : pterm (sg (Bt (a 1) fr n)) (nx (Bt (a 1) fr n)) (vA g) false .inl .inl p with q8 | ⟨x8, p8⟩
  · rw [hR8] at hq8
    obtain ⟨v8, e8, tk8, pp8, w8, op8, rfl, rfl⟩ := hq8
    show P0 _ _ _ _ (4, [some (.ref 0), none, none, none], [.int v8], hT g a (nI fr) (nI n) e8 tk8 pp8 w8 op8 1 (nI q8)) _
    refine P0.b GX11_added5 1 (ob := []) (cf' := (5, [some (.ref 0), some (.int v8), none, none], [], hT g a (nI fr) (nI n) e8 tk8 pp8 w8 op8 1 (nI q8))) rfl trivial ?_
    refine P0.b GX11_added5 2 (ob := []) (cf' := (8, [some (.ref 0), some (.int v8), none, none], [.int 43, .ref 0], hT g a (nI fr) (nI n) e8 tk8 pp8 w8 op8 1 (nI q8))) rfl trivial ?_
    refine P0.cd (d0 := 0) (as := [.ref 0, .int 43]) (rest := []) (r1 := some (.int 0)) (h1 := hT g a (nI fr) (nI n) e8 tk8 pp8 w8 op8 1 (nI q8)) (st' := [.int 0]) GX11_isSign kX11_added5_8 rfl ⟨_, _, rfl, rfl, .inl ⟨_, _, _, _, rfl, rfl⟩⟩ (Nat.le_of_ble_eq_true rfl) (Nat.le_of_ble_eq_true rfl) (e_isSign_bad (c := 43)) (Nat.le_of_ble_eq_true rfl) rfl (Nat.le_of_ble_eq_true rfl) rfl ?_
    refine P0.b GX11_added5 3 (ob := []) (cf' := (17, [some (.ref 0), some (.int v8), none, none], [.int 45, .ref 0], hT g a (nI fr) (nI n) e8 tk8 pp8 w8 op8 1 (nI q8))) rfl trivial ?_
    refine P0.cd (d0 := 0) (as := [.ref 0, .int 45]) (rest := []) (r1 := some (.int 0)) (h1 := hT g a (nI fr) (nI n) e8 tk8 pp8 w8 op8 1 (nI q8)) (st' := [.int 0]) GX11_isSign kX11_added5_17 rfl ⟨_, _, rfl, rfl, .inl ⟨_, _, _, _, rfl, rfl⟩⟩ (Nat.le_of_ble_eq_true rfl) (Nat.le_of_ble_eq_true rfl) (e_isSign_bad (c := 45)) (Nat.le_of_ble_eq_true rfl) rfl (Nat.le_of_ble_eq_true rfl) rfl ?_
    refine P0.b GX11_added5 2 (ob := []) (cf' := (67, [some (.ref 0), some (.int v8), none, none], [.int v8], hT g a (nI fr) (nI n) e8 tk8 pp8 w8 op8 1 (nI q8))) rfl trivial ?_
    exact P0.ri (by decide +kernel) rfl rfl (QP.no (pc0_no hR8) v8 e8 tk8 pp8 w8 op8)
  · rw [hR8] at hq8
    obtain ⟨w8, fl8, rfl, rfl, hw8, hp8⟩ := hq8
    show P0 _ _ _ _ (4, [some (.ref 0), none, none, none], [.int x8], hT g a (nI fr) (nI n) (nI (en (Bt (a 1) fr n) p8)) (kd (Bt (a 1) fr n) p8) (nI p8) w8 op 0 fl8) _
    refine P0.b GX11_added5 1 (ob := []) (cf' := (5, [some (.ref 0), some (.int x8), none, none], [], hT g a (nI fr) (nI n) (nI (en (Bt (a 1) fr n) p8)) (kd (Bt (a 1) fr n) p8) (nI p8) w8 op 0 fl8)) rfl trivial ?_
    rw [pc0_yes hR8]
    exact lp_X11_added5 hT0 hop 200 _ _ _ _ hw8 hp8 (by have := hT0.2.1; omega)
set_option maxHeartbeats 2000000 in
theorem e_X11_not5 {g : Nat → Int32} {a : Nat → Nat → Int32} {fr n : Nat} (hT0 : TxOK a fr n) {p : Nat} {w : Int64} {fl : Int32} (hw : wOK (Bt (a 1) fr n) p w) (hp : p ≤ n) {op : Int32} (hop : op = 5) : P0 7 0 0 mX11_not5 (0, ent 4 [.ref 0], [], hT g a (nI fr) (nI n) (nI (en (Bt (a 1) fr n) p)) (kd (Bt (a 1) fr n) p) (nI p) w op 0 fl) (QP g a fr n op (lvl (sg (Bt (a 1) fr n)) (nx (Bt (a 1) fr n)) (vA g) 0 1 p)) := by
  show P0 _ _ _ _ _ (QP g a fr n op (pnot (sg (Bt (a 1) fr n)) (nx (Bt (a 1) fr n)) (vA g) false .inl .inl .inl p))
  refine P0.b GX11_not5 9 (ob := []) (cf' := (12, [some (.ref 0), none, none, none], [.int 0, .int 0, .int 0, .int 0, .int 0, .int 116, .int 111, .int 110, .ref 0], hT g a (nI fr) (nI n) (nI (en (Bt (a 1) fr n) p)) (kd (Bt (a 1) fr n) p) (nI p) w op 0 fl)) rfl trivial ?_
  refine P0.cd (d0 := 2) (as := [.ref 0, .int 110, .int 111, .int 116, .int 0, .int 0, .int 0, .int 0, .int 0]) (rest := []) (r1 := some (.int (if sg (Bt (a 1) fr n) p = (-12) then 1 else 0))) (h1 := hT g a (nI fr) (nI n) (nI (en (Bt (a 1) fr n) p)) (kd (Bt (a 1) fr n) p) (nI p) w op 0 fl) (st' := [.int (if sg (Bt (a 1) fr n) p = (-12) then 1 else 0)]) GX11_isWord kX11_not5_12 rfl ⟨_, _, rfl, rfl, .inl ⟨_, _, _, _, rfl, rfl⟩⟩ (Nat.le_of_ble_eq_true rfl) (Nat.le_of_ble_eq_true rfl) (e_isWord_ok hT0 hp (cs := [110, 111, 116]) (code := (-12)) (by decide +kernel) (by decide) (by decide)) (Nat.le_of_ble_eq_true rfl) rfl (Nat.le_of_ble_eq_true rfl) rfl ?_
  refine P0.b GX11_not5 1 (ob := []) (cf' := (if (if sg (Bt (a 1) fr n) p = (-12) then 1 else 0) = 0 then 25 else 18, [some (.ref 0), none, none, none], [], hT g a (nI fr) (nI n) (nI (en (Bt (a 1) fr n) p)) (kd (Bt (a 1) fr n) p) (nI p) w op 0 fl)) rfl trivial ?_
  refine P0.ifB (fun h1 => ?_) (fun h1 => ?_)
  · refine P0.b GX11_not5 1 (ob := []) (cf' := (26, [some (.ref 0), none, none, none], [.ref 0], hT g a (nI fr) (nI n) (nI (en (Bt (a 1) fr n) p)) (kd (Bt (a 1) fr n) p) (nI p) w op 0 fl)) rfl trivial ?_
    refine P0.cs (as := [.ref 0]) (rest := []) GX11_added5 kX11_not5_26 rfl ⟨_, _, rfl, rfl, .inl ⟨_, _, _, _, rfl, rfl⟩⟩ (Nat.le_of_ble_eq_true rfl) (Nat.le_of_ble_eq_true rfl) (P0.mono (e_X11_added5 hT0 hw hp (op := op) hop) (Nat.le_of_ble_eq_true rfl) (Nat.zero_le _) (Nat.zero_le _) (fun _ _ q => q)) (Nat.le_of_ble_eq_true rfl) (fun _ _ q => q.len) ?_
    rintro r1009 h1009 hq9
    have hq9 : QP g a fr n op (psum (sg (Bt (a 1) fr n)) (nx (Bt (a 1) fr n)) (vA g) false .inl .inl p) r1009 h1009 := hq9
    rcases hR9 : psum (sg (Bt (a 1) fr n)) (nx (Bt (a 1) fr n)) (vA g) false .inl .inl p with q9 | ⟨x9, p9⟩
    · rw [hR9] at hq9
      obtain ⟨v9, e9, tk9, pp9, w9, op9, rfl, rfl⟩ := hq9
      show P0 _ _ _ _ (29, [some (.ref 0), none, none, none], [.int v9], hT g a (nI fr) (nI n) e9 tk9 pp9 w9 op9 1 (nI q9)) _
      refine P0.b GX11_not5 3 (ob := []) (cf' := (33, [some (.ref 0), some (.int v9), none, none], [.int 60, .ref 0], hT g a (nI fr) (nI n) e9 tk9 pp9 w9 op9 1 (nI q9))) rfl trivial ?_
      refine P0.cd (d0 := 0) (as := [.ref 0, .int 60]) (rest := []) (r1 := some (.int 0)) (h1 := hT g a (nI fr) (nI n) e9 tk9 pp9 w9 op9 1 (nI q9)) (st' := [.int 0]) GX11_isSign kX11_not5_33 rfl ⟨_, _, rfl, rfl, .inl ⟨_, _, _, _, rfl, rfl⟩⟩ (Nat.le_of_ble_eq_true rfl) (Nat.le_of_ble_eq_true rfl) (e_isSign_bad (c := 60)) (Nat.le_of_ble_eq_true rfl) rfl (Nat.le_of_ble_eq_true rfl) rfl ?_
      refine P0.b GX11_not5 3 (ob := []) (cf' := (42, [some (.ref 0), some (.int v9), none, none], [.int 61, .ref 0], hT g a (nI fr) (nI n) e9 tk9 pp9 w9 op9 1 (nI q9))) rfl trivial ?_
      refine P0.cd (d0 := 0) (as := [.ref 0, .int 61]) (rest := []) (r1 := some (.int 0)) (h1 := hT g a (nI fr) (nI n) e9 tk9 pp9 w9 op9 1 (nI q9)) (st' := [.int 0]) GX11_isSign kX11_not5_42 rfl ⟨_, _, rfl, rfl, .inl ⟨_, _, _, _, rfl, rfl⟩⟩ (Nat.le_of_ble_eq_true rfl) (Nat.le_of_ble_eq_true rfl) (e_isSign_bad (c := 61)) (Nat.le_of_ble_eq_true rfl) rfl (Nat.le_of_ble_eq_true rfl) rfl ?_
      refine P0.b GX11_not5 2 (ob := []) (cf' := (49, [some (.ref 0), some (.int v9), none, none], [.int v9], hT g a (nI fr) (nI n) e9 tk9 pp9 w9 op9 1 (nI q9))) rfl trivial ?_
      exact P0.ri (by decide +kernel) rfl rfl (QP.no ((pnot_sum h1).trans (by rw [hR9]; rfl)) v9 e9 tk9 pp9 w9 op9)
    · rw [hR9] at hq9
      obtain ⟨w9, fl9, rfl, rfl, hw9, hp9⟩ := hq9
      show P0 _ _ _ _ (29, [some (.ref 0), none, none, none], [.int x9], hT g a (nI fr) (nI n) (nI (en (Bt (a 1) fr n) p9)) (kd (Bt (a 1) fr n) p9) (nI p9) w9 op 0 fl9) _
      refine P0.b GX11_not5 3 (ob := []) (cf' := (33, [some (.ref 0), some (.int x9), none, none], [.int 60, .ref 0], hT g a (nI fr) (nI n) (nI (en (Bt (a 1) fr n) p9)) (kd (Bt (a 1) fr n) p9) (nI p9) w9 op 0 fl9)) rfl trivial ?_
      refine P0.cd (d0 := 0) (as := [.ref 0, .int 60]) (rest := []) (r1 := some (.int (if sg (Bt (a 1) fr n) p9 = (-19) then 1 else 0))) (h1 := hT g a (nI fr) (nI n) (nI (en (Bt (a 1) fr n) p9)) (kd (Bt (a 1) fr n) p9) (nI p9) w9 op 0 fl9) (st' := [.int (if sg (Bt (a 1) fr n) p9 = (-19) then 1 else 0)]) GX11_isSign kX11_not5_33 rfl ⟨_, _, rfl, rfl, .inl ⟨_, _, _, _, rfl, rfl⟩⟩ (Nat.le_of_ble_eq_true rfl) (Nat.le_of_ble_eq_true rfl) (e_isSign_ok hw9 (c := 60) (code := (-19)) (by decide +kernel)) (Nat.le_of_ble_eq_true rfl) rfl (Nat.le_of_ble_eq_true rfl) rfl ?_
      refine P0.b GX11_not5 1 (ob := []) (cf' := (if (if sg (Bt (a 1) fr n) p9 = (-19) then 1 else 0) = 0 then 39 else 50, [some (.ref 0), some (.int x9), none, none], [], hT g a (nI fr) (nI n) (nI (en (Bt (a 1) fr n) p9)) (kd (Bt (a 1) fr n) p9) (nI p9) w9 op 0 fl9)) rfl trivial ?_
      refine P0.ifB (fun h2 => ?_) (fun h2 => ?_)
      · refine P0.b GX11_not5 2 (ob := []) (cf' := (42, [some (.ref 0), some (.int x9), none, none], [.int 61, .ref 0], hT g a (nI fr) (nI n) (nI (en (Bt (a 1) fr n) p9)) (kd (Bt (a 1) fr n) p9) (nI p9) w9 op 0 fl9)) rfl trivial ?_
        refine P0.cd (d0 := 0) (as := [.ref 0, .int 61]) (rest := []) (r1 := some (.int (if sg (Bt (a 1) fr n) p9 = (-20) then 1 else 0))) (h1 := hT g a (nI fr) (nI n) (nI (en (Bt (a 1) fr n) p9)) (kd (Bt (a 1) fr n) p9) (nI p9) w9 op 0 fl9) (st' := [.int (if sg (Bt (a 1) fr n) p9 = (-20) then 1 else 0)]) GX11_isSign kX11_not5_42 rfl ⟨_, _, rfl, rfl, .inl ⟨_, _, _, _, rfl, rfl⟩⟩ (Nat.le_of_ble_eq_true rfl) (Nat.le_of_ble_eq_true rfl) (e_isSign_ok hw9 (c := 61) (code := (-20)) (by decide +kernel)) (Nat.le_of_ble_eq_true rfl) rfl (Nat.le_of_ble_eq_true rfl) rfl ?_
        refine P0.b GX11_not5 1 (ob := []) (cf' := (if (if sg (Bt (a 1) fr n) p9 = (-20) then 1 else 0) = 0 then 48 else 50, [some (.ref 0), some (.int x9), none, none], [], hT g a (nI fr) (nI n) (nI (en (Bt (a 1) fr n) p9)) (kd (Bt (a 1) fr n) p9) (nI p9) w9 op 0 fl9)) rfl trivial ?_
        refine P0.ifB (fun h3 => ?_) (fun h3 => ?_)
        · refine P0.b GX11_not5 1 (ob := []) (cf' := (49, [some (.ref 0), some (.int x9), none, none], [.int x9], hT g a (nI fr) (nI n) (nI (en (Bt (a 1) fr n) p9)) (kd (Bt (a 1) fr n) p9) (nI p9) w9 op 0 fl9)) rfl trivial ?_
          exact P0.ri (by decide +kernel) rfl rfl (QP.yes ((pnot_sum h1).trans (by rw [hR9]; exact if_neg (fun z => z.elim h2 h3))) hw9 hp9)
        · refine P0.b GX11_not5 5 (ob := []) (cf' := (if lg_cmp w9 60 = 0 then 61 else 65, [some (.ref 0), some (.int x9), none, none], [], hT g a (nI fr) (nI n) (nI (en (Bt (a 1) fr n) p9)) (kd (Bt (a 1) fr n) p9) (nI p9) w9 op 0 fl9)) rfl trivial ?_
          rw [if_neg (show ¬ (lg_cmp w9 60 = 0) from by rw [sB_of (c := 61) (code := -20) (by decide +kernel) h3 hw9]; decide)]
          refine P0.b GX11_not5 3 (ob := []) (cf' := (68, [some (.ref 0), some (.int x9), some (.int 0), none], [.ref 0], hT g a (nI fr) (nI n) (nI (en (Bt (a 1) fr n) p9)) (kd (Bt (a 1) fr n) p9) (nI p9) w9 op 0 fl9)) rfl trivial ?_
          refine P0.cs (as := [.ref 0]) (rest := []) GX11_nextToken kX11_not5_68 rfl ⟨_, _, rfl, rfl, .inl ⟨_, _, _, _, rfl, rfl⟩⟩ (Nat.le_of_ble_eq_true rfl) (Nat.le_of_ble_eq_true rfl) (P0.mono (e_X11_nextToken hT0 (en (Bt (a 1) fr n) p9) (en_le hp9) _ _ _ _ _ _) (Nat.le_of_ble_eq_true rfl) (Nat.zero_le _) (Nat.zero_le _) (fun _ _ q => q)) (Nat.le_of_ble_eq_true rfl) (fun _ _ q => q.len) ?_
          rintro _ _ ⟨w10, rfl, rfl, hw10⟩
          have hp10 := nx_le (f := a 1) (fr := fr) hp9
          show P0 _ _ _ _ (71, [some (.ref 0), some (.int x9), some (.int 0), none], [], hT g a (nI fr) (nI n) (nI (en (Bt (a 1) fr n) (nx (Bt (a 1) fr n) p9))) (kd (Bt (a 1) fr n) (nx (Bt (a 1) fr n) p9)) (nI (nx (Bt (a 1) fr n) p9)) w10 op 0 fl9) _
          refine P0.b GX11_not5 1 (ob := []) (cf' := (72, [some (.ref 0), some (.int x9), some (.int 0), none], [.ref 0], hT g a (nI fr) (nI n) (nI (en (Bt (a 1) fr n) (nx (Bt (a 1) fr n) p9))) (kd (Bt (a 1) fr n) (nx (Bt (a 1) fr n) p9)) (nI (nx (Bt (a 1) fr n) p9)) w10 op 0 fl9)) rfl trivial ?_
          refine P0.cs (as := [.ref 0]) (rest := []) GX11_added5 kX11_not5_72 rfl ⟨_, _, rfl, rfl, .inl ⟨_, _, _, _, rfl, rfl⟩⟩ (Nat.le_of_ble_eq_true rfl) (Nat.le_of_ble_eq_true rfl) (P0.mono (e_X11_added5 hT0 hw10 hp10 (op := op) hop) (Nat.le_of_ble_eq_true rfl) (Nat.zero_le _) (Nat.zero_le _) (fun _ _ q => q)) (Nat.le_of_ble_eq_true rfl) (fun _ _ q => q.len) ?_
          rintro r1011 h1011 hq11
          have hq11 : QP g a fr n op (psum (sg (Bt (a 1) fr n)) (nx (Bt (a 1) fr n)) (vA g) false .inl .inl (nx (Bt (a 1) fr n) p9)) r1011 h1011 := hq11
          rcases hR11 : psum (sg (Bt (a 1) fr n)) (nx (Bt (a 1) fr n)) (vA g) false .inl .inl (nx (Bt (a 1) fr n) p9) with q11 | ⟨x11, p11⟩
          · rw [hR11] at hq11
            obtain ⟨v11, e11, tk11, pp11, w11, op11, rfl, rfl⟩ := hq11
            show P0 _ _ _ _ (75, [some (.ref 0), some (.int x9), some (.int 0), none], [.int v11], hT g a (nI fr) (nI n) e11 tk11 pp11 w11 op11 1 (nI q11)) _
            refine P0.b GX11_not5 6 (ob := []) (cf' := (if x9 = v11 then 93 else 97, [some (.ref 0), some (.int x9), some (.int 0), some (.int v11)], [], hT g a (nI fr) (nI n) e11 tk11 pp11 w11 op11 1 (nI q11))) rfl trivial ?_
            refine P0.if (fun h4 => ?_) (fun h4 => ?_)
            · refine P0.b GX11_not5 2 (ob := []) (cf' := (98, [some (.ref 0), some (.int x9), some (.int 0), some (.int v11)], [.int 1], hT g a (nI fr) (nI n) e11 tk11 pp11 w11 op11 1 (nI q11))) rfl trivial ?_
              exact P0.ri (by decide +kernel) rfl rfl (QP.no ((pnot_sum h1).trans (by rw [hR9]; show (if _ then _ else _) = _; rw [if_pos (Or.inr h3), hR11]; rfl)) 1 e11 tk11 pp11 w11 op11)
            · refine P0.b GX11_not5 1 (ob := []) (cf' := (98, [some (.ref 0), some (.int x9), some (.int 0), some (.int v11)], [.int 0], hT g a (nI fr) (nI n) e11 tk11 pp11 w11 op11 1 (nI q11))) rfl trivial ?_
              exact P0.ri (by decide +kernel) rfl rfl (QP.no ((pnot_sum h1).trans (by rw [hR9]; show (if _ then _ else _) = _; rw [if_pos (Or.inr h3), hR11]; rfl)) 0 e11 tk11 pp11 w11 op11)
          · rw [hR11] at hq11
            obtain ⟨w11, fl11, rfl, rfl, hw11, hp11⟩ := hq11
            show P0 _ _ _ _ (75, [some (.ref 0), some (.int x9), some (.int 0), none], [.int x11], hT g a (nI fr) (nI n) (nI (en (Bt (a 1) fr n) p11)) (kd (Bt (a 1) fr n) p11) (nI p11) w11 op 0 fl11) _
            refine P0.b GX11_not5 6 (ob := []) (cf' := (if x9 = x11 then 93 else 97, [some (.ref 0), some (.int x9), some (.int 0), some (.int x11)], [], hT g a (nI fr) (nI n) (nI (en (Bt (a 1) fr n) p11)) (kd (Bt (a 1) fr n) p11) (nI p11) w11 op 0 fl11)) rfl trivial ?_
            refine P0.if (fun h5 => ?_) (fun h5 => ?_)
            · refine P0.b GX11_not5 2 (ob := []) (cf' := (98, [some (.ref 0), some (.int x9), some (.int 0), some (.int x11)], [.int 1], hT g a (nI fr) (nI n) (nI (en (Bt (a 1) fr n) p11)) (kd (Bt (a 1) fr n) p11) (nI p11) w11 op 0 fl11)) rfl trivial ?_
              exact P0.ri (by decide +kernel) rfl rfl (QP.yes ((pnot_sum h1).trans (by rw [hR9]; show (if _ then _ else _) = _; rw [if_pos (Or.inr h3), hR11]; show Sum.inr (vBn _ _ _, _) = _; rw [h3]; simp [vBn, h5])) hw11 hp11)
            · refine P0.b GX11_not5 1 (ob := []) (cf' := (98, [some (.ref 0), some (.int x9), some (.int 0), some (.int x11)], [.int 0], hT g a (nI fr) (nI n) (nI (en (Bt (a 1) fr n) p11)) (kd (Bt (a 1) fr n) p11) (nI p11) w11 op 0 fl11)) rfl trivial ?_
              exact P0.ri (by decide +kernel) rfl rfl (QP.yes ((pnot_sum h1).trans (by rw [hR9]; show (if _ then _ else _) = _; rw [if_pos (Or.inr h3), hR11]; show Sum.inr (vBn _ _ _, _) = _; rw [h3]; simp [vBn, h5])) hw11 hp11)
      · refine P0.b GX11_not5 5 (ob := []) (cf' := (if lg_cmp w9 60 = 0 then 61 else 65, [some (.ref 0), some (.int x9), none, none], [], hT g a (nI fr) (nI n) (nI (en (Bt (a 1) fr n) p9)) (kd (Bt (a 1) fr n) p9) (nI p9) w9 op 0 fl9)) rfl trivial ?_
        rw [if_pos (show lg_cmp w9 60 = 0 from (lgc_eq _ _).mpr (sB_of (c := 60) (code := -19) (by decide +kernel) h2 hw9))]
        refine P0.b GX11_not5 4 (ob := []) (cf' := (68, [some (.ref 0), some (.int x9), some (.int 1), none], [.ref 0], hT g a (nI fr) (nI n) (nI (en (Bt (a 1) fr n) p9)) (kd (Bt (a 1) fr n) p9) (nI p9) w9 op 0 fl9)) rfl trivial ?_
        refine P0.cs (as := [.ref 0]) (rest := []) GX11_nextToken kX11_not5_68 rfl ⟨_, _, rfl, rfl, .inl ⟨_, _, _, _, rfl, rfl⟩⟩ (Nat.le_of_ble_eq_true rfl) (Nat.le_of_ble_eq_true rfl) (P0.mono (e_X11_nextToken hT0 (en (Bt (a 1) fr n) p9) (en_le hp9) _ _ _ _ _ _) (Nat.le_of_ble_eq_true rfl) (Nat.zero_le _) (Nat.zero_le _) (fun _ _ q => q)) (Nat.le_of_ble_eq_true rfl) (fun _ _ q => q.len) ?_
        rintro _ _ ⟨w12, rfl, rfl, hw12⟩
        have hp12 := nx_le (f := a 1) (fr := fr) hp9
        show P0 _ _ _ _ (71, [some (.ref 0), some (.int x9), some (.int 1), none], [], hT g a (nI fr) (nI n) (nI (en (Bt (a 1) fr n) (nx (Bt (a 1) fr n) p9))) (kd (Bt (a 1) fr n) (nx (Bt (a 1) fr n) p9)) (nI (nx (Bt (a 1) fr n) p9)) w12 op 0 fl9) _
        refine P0.b GX11_not5 1 (ob := []) (cf' := (72, [some (.ref 0), some (.int x9), some (.int 1), none], [.ref 0], hT g a (nI fr) (nI n) (nI (en (Bt (a 1) fr n) (nx (Bt (a 1) fr n) p9))) (kd (Bt (a 1) fr n) (nx (Bt (a 1) fr n) p9)) (nI (nx (Bt (a 1) fr n) p9)) w12 op 0 fl9)) rfl trivial ?_
        refine P0.cs (as := [.ref 0]) (rest := []) GX11_added5 kX11_not5_72 rfl ⟨_, _, rfl, rfl, .inl ⟨_, _, _, _, rfl, rfl⟩⟩ (Nat.le_of_ble_eq_true rfl) (Nat.le_of_ble_eq_true rfl) (P0.mono (e_X11_added5 hT0 hw12 hp12 (op := op) hop) (Nat.le_of_ble_eq_true rfl) (Nat.zero_le _) (Nat.zero_le _) (fun _ _ q => q)) (Nat.le_of_ble_eq_true rfl) (fun _ _ q => q.len) ?_
        rintro r1013 h1013 hq13
        have hq13 : QP g a fr n op (psum (sg (Bt (a 1) fr n)) (nx (Bt (a 1) fr n)) (vA g) false .inl .inl (nx (Bt (a 1) fr n) p9)) r1013 h1013 := hq13
        rcases hR13 : psum (sg (Bt (a 1) fr n)) (nx (Bt (a 1) fr n)) (vA g) false .inl .inl (nx (Bt (a 1) fr n) p9) with q13 | ⟨x13, p13⟩
        · rw [hR13] at hq13
          obtain ⟨v13, e13, tk13, pp13, w13, op13, rfl, rfl⟩ := hq13
          show P0 _ _ _ _ (75, [some (.ref 0), some (.int x9), some (.int 1), none], [.int v13], hT g a (nI fr) (nI n) e13 tk13 pp13 w13 op13 1 (nI q13)) _
          refine P0.b GX11_not5 6 (ob := []) (cf' := (if v13 ≤ x9 then 97 else 85, [some (.ref 0), some (.int x9), some (.int 1), some (.int v13)], [], hT g a (nI fr) (nI n) e13 tk13 pp13 w13 op13 1 (nI q13))) rfl trivial ?_
          refine P0.if (fun h6 => ?_) (fun h6 => ?_)
          · refine P0.b GX11_not5 1 (ob := []) (cf' := (98, [some (.ref 0), some (.int x9), some (.int 1), some (.int v13)], [.int 0], hT g a (nI fr) (nI n) e13 tk13 pp13 w13 op13 1 (nI q13))) rfl trivial ?_
            exact P0.ri (by decide +kernel) rfl rfl (QP.no ((pnot_sum h1).trans (by rw [hR9]; show (if _ then _ else _) = _; rw [if_pos (Or.inl h2), hR13]; rfl)) 0 e13 tk13 pp13 w13 op13)
          · refine P0.b GX11_not5 3 (ob := []) (cf' := (98, [some (.ref 0), some (.int x9), some (.int 1), some (.int v13)], [.int 1], hT g a (nI fr) (nI n) e13 tk13 pp13 w13 op13 1 (nI q13))) rfl trivial ?_
            exact P0.ri (by decide +kernel) rfl rfl (QP.no ((pnot_sum h1).trans (by rw [hR9]; show (if _ then _ else _) = _; rw [if_pos (Or.inl h2), hR13]; rfl)) 1 e13 tk13 pp13 w13 op13)
        · rw [hR13] at hq13
          obtain ⟨w13, fl13, rfl, rfl, hw13, hp13⟩ := hq13
          show P0 _ _ _ _ (75, [some (.ref 0), some (.int x9), some (.int 1), none], [.int x13], hT g a (nI fr) (nI n) (nI (en (Bt (a 1) fr n) p13)) (kd (Bt (a 1) fr n) p13) (nI p13) w13 op 0 fl13) _
          refine P0.b GX11_not5 6 (ob := []) (cf' := (if x13 ≤ x9 then 97 else 85, [some (.ref 0), some (.int x9), some (.int 1), some (.int x13)], [], hT g a (nI fr) (nI n) (nI (en (Bt (a 1) fr n) p13)) (kd (Bt (a 1) fr n) p13) (nI p13) w13 op 0 fl13)) rfl trivial ?_
          refine P0.if (fun h7 => ?_) (fun h7 => ?_)
          · refine P0.b GX11_not5 1 (ob := []) (cf' := (98, [some (.ref 0), some (.int x9), some (.int 1), some (.int x13)], [.int 0], hT g a (nI fr) (nI n) (nI (en (Bt (a 1) fr n) p13)) (kd (Bt (a 1) fr n) p13) (nI p13) w13 op 0 fl13)) rfl trivial ?_
            exact P0.ri (by decide +kernel) rfl rfl (QP.yes ((pnot_sum h1).trans (by rw [hR9]; show (if _ then _ else _) = _; rw [if_pos (Or.inl h2), hR13]; show Sum.inr (vBn _ _ _, _) = _; rw [h2]; simp [vBn, h7])) hw13 hp13)
          · refine P0.b GX11_not5 3 (ob := []) (cf' := (98, [some (.ref 0), some (.int x9), some (.int 1), some (.int x13)], [.int 1], hT g a (nI fr) (nI n) (nI (en (Bt (a 1) fr n) p13)) (kd (Bt (a 1) fr n) p13) (nI p13) w13 op 0 fl13)) rfl trivial ?_
            exact P0.ri (by decide +kernel) rfl rfl (QP.yes ((pnot_sum h1).trans (by rw [hR9]; show (if _ then _ else _) = _; rw [if_pos (Or.inl h2), hR13]; show Sum.inr (vBn _ _ _, _) = _; rw [h2]; simp [vBn, h7])) hw13 hp13)
  · refine P0.b GX11_not5 1 (ob := []) (cf' := (19, [some (.ref 0), none, none, none], [.ref 0], hT g a (nI fr) (nI n) (nI (en (Bt (a 1) fr n) p)) (kd (Bt (a 1) fr n) p) (nI p) w op 0 fl)) rfl trivial ?_
    refine P0.cd (d0 := 2) (as := [.ref 0]) (rest := []) (r1 := some (.int 0)) (h1 := hT g a (nI fr) (nI n) (nI (en (Bt (a 1) fr n) p)) (kd (Bt (a 1) fr n) p) (nI p) w op 1 (nI p)) (st' := [.int 0]) GX11_opens kX11_not5_19 rfl ⟨_, _, rfl, rfl, .inl ⟨_, _, _, _, rfl, rfl⟩⟩ (Nat.le_of_ble_eq_true rfl) (Nat.le_of_ble_eq_true rfl) (e_opens_no hop) (Nat.le_of_ble_eq_true rfl) rfl (Nat.le_of_ble_eq_true rfl) rfl ?_
    refine P0.b GX11_not5 2 (ob := []) (cf' := (24, [some (.ref 0), none, none, none], [.int 0], hT g a (nI fr) (nI n) (nI (en (Bt (a 1) fr n) p)) (kd (Bt (a 1) fr n) p) (nI p) w op 1 (nI p))) rfl trivial ?_
    exact P0.ri (by decide +kernel) rfl rfl (QP.no ((pnot_not h1).trans rfl) 0 (nI (en (Bt (a 1) fr n) p)) (kd (Bt (a 1) fr n) p) (nI p) w op)
set_option maxHeartbeats 2000000 in
theorem lp_X11_both5 {g : Nat → Int32} {a : Nat → Nat → Int32} {fr n : Nat} (hT0 : TxOK a fr n) {op : Int32} (hop : op = 5) : ∀ (f : Nat) (x : Int32) (p : Nat) (w : Int64) (fl : Int32), wOK (Bt (a 1) fr n) p w → p ≤ n → n ≤ p + f → P0 8 0 0 mX11_both5 (5, [some (.ref 0), some (.int x), none], [], hT g a (nI fr) (nI n) (nI (en (Bt (a 1) fr n) p)) (kd (Bt (a 1) fr n) p) (nI p) w op 0 fl) (QP g a fr n op (pch (sg (Bt (a 1) fr n)) (nx (Bt (a 1) fr n)) (vA g).2.2 jBoth (pnot (sg (Bt (a 1) fr n)) (nx (Bt (a 1) fr n)) (vA g) false .inl .inl .inl) f x p))
  | 0, x, p, w, fl, hw, hp, hpf => by
    refine P0.b GX11_both5 9 (ob := []) (cf' := (17, [some (.ref 0), some (.int x), none], [.int 0, .int 0, .int 0, .int 0, .int 0, .int 100, .int 110, .int 97, .ref 0], hT g a (nI fr) (nI n) (nI (en (Bt (a 1) fr n) p)) (kd (Bt (a 1) fr n) p) (nI p) w op 0 fl)) rfl trivial ?_
    refine P0.cd (d0 := 2) (as := [.ref 0, .int 97, .int 110, .int 100, .int 0, .int 0, .int 0, .int 0, .int 0]) (rest := []) (r1 := some (.int (if sg (Bt (a 1) fr n) p = (-11) then 1 else 0))) (h1 := hT g a (nI fr) (nI n) (nI (en (Bt (a 1) fr n) p)) (kd (Bt (a 1) fr n) p) (nI p) w op 0 fl) (st' := [.int (if sg (Bt (a 1) fr n) p = (-11) then 1 else 0)]) GX11_isWord kX11_both5_17 rfl ⟨_, _, rfl, rfl, .inl ⟨_, _, _, _, rfl, rfl⟩⟩ (Nat.le_of_ble_eq_true rfl) (Nat.le_of_ble_eq_true rfl) (e_isWord_ok hT0 hp (cs := [97, 110, 100]) (code := (-11)) (by decide +kernel) (by decide) (by decide)) (Nat.le_of_ble_eq_true rfl) rfl (Nat.le_of_ble_eq_true rfl) rfl ?_
    refine P0.b GX11_both5 1 (ob := []) (cf' := (if (if sg (Bt (a 1) fr n) p = (-11) then 1 else 0) = 0 then 49 else 23, [some (.ref 0), some (.int x), none], [], hT g a (nI fr) (nI n) (nI (en (Bt (a 1) fr n) p)) (kd (Bt (a 1) fr n) p) (nI p) w op 0 fl)) rfl trivial ?_
    rw [if_neg (show ¬ (sg (Bt (a 1) fr n) p = (-11)) from by rw [sg_end hpf]; decide), if_pos rfl]
    refine P0.b GX11_both5 1 (ob := []) (cf' := (50, [some (.ref 0), some (.int x), none], [.int x], hT g a (nI fr) (nI n) (nI (en (Bt (a 1) fr n) p)) (kd (Bt (a 1) fr n) p) (nI p) w op 0 fl)) rfl trivial ?_
    exact P0.ri (by decide +kernel) rfl rfl (QP.yes rfl hw hp)
  | f + 1, x, p, w, fl, hw, hp, hpf => by
    refine P0.b GX11_both5 9 (ob := []) (cf' := (17, [some (.ref 0), some (.int x), none], [.int 0, .int 0, .int 0, .int 0, .int 0, .int 100, .int 110, .int 97, .ref 0], hT g a (nI fr) (nI n) (nI (en (Bt (a 1) fr n) p)) (kd (Bt (a 1) fr n) p) (nI p) w op 0 fl)) rfl trivial ?_
    refine P0.cd (d0 := 2) (as := [.ref 0, .int 97, .int 110, .int 100, .int 0, .int 0, .int 0, .int 0, .int 0]) (rest := []) (r1 := some (.int (if sg (Bt (a 1) fr n) p = (-11) then 1 else 0))) (h1 := hT g a (nI fr) (nI n) (nI (en (Bt (a 1) fr n) p)) (kd (Bt (a 1) fr n) p) (nI p) w op 0 fl) (st' := [.int (if sg (Bt (a 1) fr n) p = (-11) then 1 else 0)]) GX11_isWord kX11_both5_17 rfl ⟨_, _, rfl, rfl, .inl ⟨_, _, _, _, rfl, rfl⟩⟩ (Nat.le_of_ble_eq_true rfl) (Nat.le_of_ble_eq_true rfl) (e_isWord_ok hT0 hp (cs := [97, 110, 100]) (code := (-11)) (by decide +kernel) (by decide) (by decide)) (Nat.le_of_ble_eq_true rfl) rfl (Nat.le_of_ble_eq_true rfl) rfl ?_
    refine P0.b GX11_both5 1 (ob := []) (cf' := (if (if sg (Bt (a 1) fr n) p = (-11) then 1 else 0) = 0 then 49 else 23, [some (.ref 0), some (.int x), none], [], hT g a (nI fr) (nI n) (nI (en (Bt (a 1) fr n) p)) (kd (Bt (a 1) fr n) p) (nI p) w op 0 fl)) rfl trivial ?_
    refine P0.ifB (fun h1 => ?_) (fun h1 => ?_)
    · refine P0.b GX11_both5 1 (ob := []) (cf' := (50, [some (.ref 0), some (.int x), none], [.int x], hT g a (nI fr) (nI n) (nI (en (Bt (a 1) fr n) p)) (kd (Bt (a 1) fr n) p) (nI p) w op 0 fl)) rfl trivial ?_
      exact P0.ri (by decide +kernel) rfl rfl (QP.yes (pch_stop (show jBoth (sg (Bt (a 1) fr n) p) = false from by simp only [jBoth]; exact decide_eq_false h1)) hw hp)
    · refine P0.b GX11_both5 1 (ob := []) (cf' := (24, [some (.ref 0), some (.int x), none], [.ref 0], hT g a (nI fr) (nI n) (nI (en (Bt (a 1) fr n) p)) (kd (Bt (a 1) fr n) p) (nI p) w op 0 fl)) rfl trivial ?_
      refine P0.cs (as := [.ref 0]) (rest := []) GX11_nextToken kX11_both5_24 rfl ⟨_, _, rfl, rfl, .inl ⟨_, _, _, _, rfl, rfl⟩⟩ (Nat.le_of_ble_eq_true rfl) (Nat.le_of_ble_eq_true rfl) (P0.mono (e_X11_nextToken hT0 (en (Bt (a 1) fr n) p) (en_le hp) _ _ _ _ _ _) (Nat.le_of_ble_eq_true rfl) (Nat.zero_le _) (Nat.zero_le _) (fun _ _ q => q)) (Nat.le_of_ble_eq_true rfl) (fun _ _ q => q.len) ?_
      rintro _ _ ⟨w14, rfl, rfl, hw14⟩
      have hp14 := nx_le (f := a 1) (fr := fr) hp
      show P0 _ _ _ _ (27, [some (.ref 0), some (.int x), none], [], hT g a (nI fr) (nI n) (nI (en (Bt (a 1) fr n) (nx (Bt (a 1) fr n) p))) (kd (Bt (a 1) fr n) (nx (Bt (a 1) fr n) p)) (nI (nx (Bt (a 1) fr n) p)) w14 op 0 fl) _
      refine P0.b GX11_both5 1 (ob := []) (cf' := (28, [some (.ref 0), some (.int x), none], [.ref 0], hT g a (nI fr) (nI n) (nI (en (Bt (a 1) fr n) (nx (Bt (a 1) fr n) p))) (kd (Bt (a 1) fr n) (nx (Bt (a 1) fr n) p)) (nI (nx (Bt (a 1) fr n) p)) w14 op 0 fl)) rfl trivial ?_
      refine P0.cs (as := [.ref 0]) (rest := []) GX11_not5 kX11_both5_28 rfl ⟨_, _, rfl, rfl, .inl ⟨_, _, _, _, rfl, rfl⟩⟩ (Nat.le_of_ble_eq_true rfl) (Nat.le_of_ble_eq_true rfl) (P0.mono (e_X11_not5 hT0 hw14 hp14 (op := op) hop) (Nat.le_of_ble_eq_true rfl) (Nat.zero_le _) (Nat.zero_le _) (fun _ _ q => q)) (Nat.le_of_ble_eq_true rfl) (fun _ _ q => q.len) ?_
      rintro r1015 h1015 hq15
      have hq15 : QP g a fr n op (pnot (sg (Bt (a 1) fr n)) (nx (Bt (a 1) fr n)) (vA g) false .inl .inl .inl (nx (Bt (a 1) fr n) p)) r1015 h1015 := hq15
      rcases hR15 : pnot (sg (Bt (a 1) fr n)) (nx (Bt (a 1) fr n)) (vA g) false .inl .inl .inl (nx (Bt (a 1) fr n) p) with q15 | ⟨x15, p15⟩
      · rw [hR15] at hq15
        obtain ⟨v15, e15, tk15, pp15, w15, op15, rfl, rfl⟩ := hq15
        show P0 _ _ _ _ (31, [some (.ref 0), some (.int x), none], [.int v15], hT g a (nI fr) (nI n) e15 tk15 pp15 w15 op15 1 (nI q15)) _
        refine P0.b GX11_both5 3 (ob := []) (cf' := (if x = 0 then 44 else 36, [some (.ref 0), some (.int x), some (.int v15)], [], hT g a (nI fr) (nI n) e15 tk15 pp15 w15 op15 1 (nI q15))) rfl trivial ?_
        refine P0.if (fun h2 => ?_) (fun h2 => ?_)
        · refine P0.b GX11_both5 3 (ob := []) (cf' := (5, [some (.ref 0), some (.int 0), some (.int v15)], [], hT g a (nI fr) (nI n) e15 tk15 pp15 w15 op15 1 (nI q15))) rfl trivial ?_
          refine P0.b GX11_both5 9 (ob := []) (cf' := (17, [some (.ref 0), some (.int 0), some (.int v15)], [.int 0, .int 0, .int 0, .int 0, .int 0, .int 100, .int 110, .int 97, .ref 0], hT g a (nI fr) (nI n) e15 tk15 pp15 w15 op15 1 (nI q15))) rfl trivial ?_
          refine P0.cd (d0 := 2) (as := [.ref 0, .int 97, .int 110, .int 100, .int 0, .int 0, .int 0, .int 0, .int 0]) (rest := []) (r1 := some (.int 0)) (h1 := hT g a (nI fr) (nI n) e15 tk15 pp15 w15 op15 1 (nI q15)) (st' := [.int 0]) GX11_isWord kX11_both5_17 rfl ⟨_, _, rfl, rfl, .inl ⟨_, _, _, _, rfl, rfl⟩⟩ (Nat.le_of_ble_eq_true rfl) (Nat.le_of_ble_eq_true rfl) (e_isWord_bad (c0 := 97) (c1 := 110) (c2 := 100) (c3 := 0) (c4 := 0) (c5 := 0) (c6 := 0) (c7 := 0)) (Nat.le_of_ble_eq_true rfl) rfl (Nat.le_of_ble_eq_true rfl) rfl ?_
          refine P0.b GX11_both5 2 (ob := []) (cf' := (50, [some (.ref 0), some (.int 0), some (.int v15)], [.int 0], hT g a (nI fr) (nI n) e15 tk15 pp15 w15 op15 1 (nI q15))) rfl trivial ?_
          exact P0.ri (by decide +kernel) rfl rfl (QP.no (pch_fail (show jBoth (sg (Bt (a 1) fr n) p) = true from by rw [h1]; decide) hR15) 0 e15 tk15 pp15 w15 op15)
        · refine P0.b GX11_both5 2 (ob := []) (cf' := (if v15 = 0 then 44 else 40, [some (.ref 0), some (.int x), some (.int v15)], [], hT g a (nI fr) (nI n) e15 tk15 pp15 w15 op15 1 (nI q15))) rfl trivial ?_
          refine P0.if (fun h3 => ?_) (fun h3 => ?_)
          · refine P0.b GX11_both5 3 (ob := []) (cf' := (5, [some (.ref 0), some (.int 0), some (.int v15)], [], hT g a (nI fr) (nI n) e15 tk15 pp15 w15 op15 1 (nI q15))) rfl trivial ?_
            refine P0.b GX11_both5 9 (ob := []) (cf' := (17, [some (.ref 0), some (.int 0), some (.int v15)], [.int 0, .int 0, .int 0, .int 0, .int 0, .int 100, .int 110, .int 97, .ref 0], hT g a (nI fr) (nI n) e15 tk15 pp15 w15 op15 1 (nI q15))) rfl trivial ?_
            refine P0.cd (d0 := 2) (as := [.ref 0, .int 97, .int 110, .int 100, .int 0, .int 0, .int 0, .int 0, .int 0]) (rest := []) (r1 := some (.int 0)) (h1 := hT g a (nI fr) (nI n) e15 tk15 pp15 w15 op15 1 (nI q15)) (st' := [.int 0]) GX11_isWord kX11_both5_17 rfl ⟨_, _, rfl, rfl, .inl ⟨_, _, _, _, rfl, rfl⟩⟩ (Nat.le_of_ble_eq_true rfl) (Nat.le_of_ble_eq_true rfl) (e_isWord_bad (c0 := 97) (c1 := 110) (c2 := 100) (c3 := 0) (c4 := 0) (c5 := 0) (c6 := 0) (c7 := 0)) (Nat.le_of_ble_eq_true rfl) rfl (Nat.le_of_ble_eq_true rfl) rfl ?_
            refine P0.b GX11_both5 2 (ob := []) (cf' := (50, [some (.ref 0), some (.int 0), some (.int v15)], [.int 0], hT g a (nI fr) (nI n) e15 tk15 pp15 w15 op15 1 (nI q15))) rfl trivial ?_
            exact P0.ri (by decide +kernel) rfl rfl (QP.no (pch_fail (show jBoth (sg (Bt (a 1) fr n) p) = true from by rw [h1]; decide) hR15) 0 e15 tk15 pp15 w15 op15)
          · refine P0.b GX11_both5 4 (ob := []) (cf' := (5, [some (.ref 0), some (.int 1), some (.int v15)], [], hT g a (nI fr) (nI n) e15 tk15 pp15 w15 op15 1 (nI q15))) rfl trivial ?_
            refine P0.b GX11_both5 9 (ob := []) (cf' := (17, [some (.ref 0), some (.int 1), some (.int v15)], [.int 0, .int 0, .int 0, .int 0, .int 0, .int 100, .int 110, .int 97, .ref 0], hT g a (nI fr) (nI n) e15 tk15 pp15 w15 op15 1 (nI q15))) rfl trivial ?_
            refine P0.cd (d0 := 2) (as := [.ref 0, .int 97, .int 110, .int 100, .int 0, .int 0, .int 0, .int 0, .int 0]) (rest := []) (r1 := some (.int 0)) (h1 := hT g a (nI fr) (nI n) e15 tk15 pp15 w15 op15 1 (nI q15)) (st' := [.int 0]) GX11_isWord kX11_both5_17 rfl ⟨_, _, rfl, rfl, .inl ⟨_, _, _, _, rfl, rfl⟩⟩ (Nat.le_of_ble_eq_true rfl) (Nat.le_of_ble_eq_true rfl) (e_isWord_bad (c0 := 97) (c1 := 110) (c2 := 100) (c3 := 0) (c4 := 0) (c5 := 0) (c6 := 0) (c7 := 0)) (Nat.le_of_ble_eq_true rfl) rfl (Nat.le_of_ble_eq_true rfl) rfl ?_
            refine P0.b GX11_both5 2 (ob := []) (cf' := (50, [some (.ref 0), some (.int 1), some (.int v15)], [.int 1], hT g a (nI fr) (nI n) e15 tk15 pp15 w15 op15 1 (nI q15))) rfl trivial ?_
            exact P0.ri (by decide +kernel) rfl rfl (QP.no (pch_fail (show jBoth (sg (Bt (a 1) fr n) p) = true from by rw [h1]; decide) hR15) 1 e15 tk15 pp15 w15 op15)
      · rw [hR15] at hq15
        obtain ⟨w15, fl15, rfl, rfl, hw15, hp15⟩ := hq15
        show P0 _ _ _ _ (31, [some (.ref 0), some (.int x), none], [.int x15], hT g a (nI fr) (nI n) (nI (en (Bt (a 1) fr n) p15)) (kd (Bt (a 1) fr n) p15) (nI p15) w15 op 0 fl15) _
        refine P0.b GX11_both5 3 (ob := []) (cf' := (if x = 0 then 44 else 36, [some (.ref 0), some (.int x), some (.int x15)], [], hT g a (nI fr) (nI n) (nI (en (Bt (a 1) fr n) p15)) (kd (Bt (a 1) fr n) p15) (nI p15) w15 op 0 fl15)) rfl trivial ?_
        refine P0.if (fun h4 => ?_) (fun h4 => ?_)
        · refine P0.b GX11_both5 3 (ob := []) (cf' := (5, [some (.ref 0), some (.int 0), some (.int x15)], [], hT g a (nI fr) (nI n) (nI (en (Bt (a 1) fr n) p15)) (kd (Bt (a 1) fr n) p15) (nI p15) w15 op 0 fl15)) rfl trivial ?_
          rw [pch_step (show jBoth (sg (Bt (a 1) fr n) p) = true from by rw [h1]; decide) hR15, show (vA g).2.2 (sg (Bt (a 1) fr n) p) x x15 = (0 : Int32) from by rw [h1]; simp [vA, vBn, h4]]
          refine P0.forget (ls' := [some (.ref 0), some (.int 0), none]) ⟨.inr rfl, .inr rfl, .inl rfl, trivial⟩ ?_
          exact lp_X11_both5 hT0 hop f _ _ _ _ hw15 hp15 (by have h1 := nx_lt (B := (Bt (a 1) fr n)) (p := p) (by rw [h1]; decide) (by rw [h1]; decide); have h2 := (prog_not' nx_lt prog_inl prog_inl prog_inl) _ _ _ hR15; omega)
        · refine P0.b GX11_both5 2 (ob := []) (cf' := (if x15 = 0 then 44 else 40, [some (.ref 0), some (.int x), some (.int x15)], [], hT g a (nI fr) (nI n) (nI (en (Bt (a 1) fr n) p15)) (kd (Bt (a 1) fr n) p15) (nI p15) w15 op 0 fl15)) rfl trivial ?_
          refine P0.if (fun h5 => ?_) (fun h5 => ?_)
          · refine P0.b GX11_both5 3 (ob := []) (cf' := (5, [some (.ref 0), some (.int 0), some (.int x15)], [], hT g a (nI fr) (nI n) (nI (en (Bt (a 1) fr n) p15)) (kd (Bt (a 1) fr n) p15) (nI p15) w15 op 0 fl15)) rfl trivial ?_
            rw [pch_step (show jBoth (sg (Bt (a 1) fr n) p) = true from by rw [h1]; decide) hR15, show (vA g).2.2 (sg (Bt (a 1) fr n) p) x x15 = (0 : Int32) from by rw [h1]; simp [vA, vBn, h4, h5]]
            refine P0.forget (ls' := [some (.ref 0), some (.int 0), none]) ⟨.inr rfl, .inr rfl, .inl rfl, trivial⟩ ?_
            exact lp_X11_both5 hT0 hop f _ _ _ _ hw15 hp15 (by have h1 := nx_lt (B := (Bt (a 1) fr n)) (p := p) (by rw [h1]; decide) (by rw [h1]; decide); have h2 := (prog_not' nx_lt prog_inl prog_inl prog_inl) _ _ _ hR15; omega)
          · refine P0.b GX11_both5 4 (ob := []) (cf' := (5, [some (.ref 0), some (.int 1), some (.int x15)], [], hT g a (nI fr) (nI n) (nI (en (Bt (a 1) fr n) p15)) (kd (Bt (a 1) fr n) p15) (nI p15) w15 op 0 fl15)) rfl trivial ?_
            rw [pch_step (show jBoth (sg (Bt (a 1) fr n) p) = true from by rw [h1]; decide) hR15, show (vA g).2.2 (sg (Bt (a 1) fr n) p) x x15 = (1 : Int32) from by rw [h1]; simp [vA, vBn, h4, h5]]
            refine P0.forget (ls' := [some (.ref 0), some (.int 1), none]) ⟨.inr rfl, .inr rfl, .inl rfl, trivial⟩ ?_
            exact lp_X11_both5 hT0 hop f _ _ _ _ hw15 hp15 (by have h1 := nx_lt (B := (Bt (a 1) fr n)) (p := p) (by rw [h1]; decide) (by rw [h1]; decide); have h2 := (prog_not' nx_lt prog_inl prog_inl prog_inl) _ _ _ hR15; omega)
set_option maxHeartbeats 2000000 in
theorem e_X11_both5 {g : Nat → Int32} {a : Nat → Nat → Int32} {fr n : Nat} (hT0 : TxOK a fr n) {p : Nat} {w : Int64} {fl : Int32} (hw : wOK (Bt (a 1) fr n) p w) (hp : p ≤ n) {op : Int32} (hop : op = 5) : P0 8 0 0 mX11_both5 (0, ent 3 [.ref 0], [], hT g a (nI fr) (nI n) (nI (en (Bt (a 1) fr n) p)) (kd (Bt (a 1) fr n) p) (nI p) w op 0 fl) (QP g a fr n op (pboth (sg (Bt (a 1) fr n)) (nx (Bt (a 1) fr n)) (vA g) false .inl .inl .inl p)) := by
  show P0 _ _ _ _ _ (QP g a fr n op (pc0 (sg (Bt (a 1) fr n)) (nx (Bt (a 1) fr n)) (vA g).2.2 jBoth (pnot (sg (Bt (a 1) fr n)) (nx (Bt (a 1) fr n)) (vA g) false .inl .inl .inl) p))
  refine P0.b GX11_both5 1 (ob := []) (cf' := (1, [some (.ref 0), none, none], [.ref 0], hT g a (nI fr) (nI n) (nI (en (Bt (a 1) fr n) p)) (kd (Bt (a 1) fr n) p) (nI p) w op 0 fl)) rfl trivial ?_
  refine P0.cs (as := [.ref 0]) (rest := []) GX11_not5 kX11_both5_1 rfl ⟨_, _, rfl, rfl, .inl ⟨_, _, _, _, rfl, rfl⟩⟩ (Nat.le_of_ble_eq_true rfl) (Nat.le_of_ble_eq_true rfl) (P0.mono (e_X11_not5 hT0 hw hp (op := op) hop) (Nat.le_of_ble_eq_true rfl) (Nat.zero_le _) (Nat.zero_le _) (fun _ _ q => q)) (Nat.le_of_ble_eq_true rfl) (fun _ _ q => q.len) ?_
  rintro r1016 h1016 hq16
  have hq16 : QP g a fr n op (pnot (sg (Bt (a 1) fr n)) (nx (Bt (a 1) fr n)) (vA g) false .inl .inl .inl p) r1016 h1016 := hq16
  rcases hR16 : pnot (sg (Bt (a 1) fr n)) (nx (Bt (a 1) fr n)) (vA g) false .inl .inl .inl p with q16 | ⟨x16, p16⟩
  · rw [hR16] at hq16
    obtain ⟨v16, e16, tk16, pp16, w16, op16, rfl, rfl⟩ := hq16
    show P0 _ _ _ _ (4, [some (.ref 0), none, none], [.int v16], hT g a (nI fr) (nI n) e16 tk16 pp16 w16 op16 1 (nI q16)) _
    refine P0.b GX11_both5 1 (ob := []) (cf' := (5, [some (.ref 0), some (.int v16), none], [], hT g a (nI fr) (nI n) e16 tk16 pp16 w16 op16 1 (nI q16))) rfl trivial ?_
    refine P0.b GX11_both5 9 (ob := []) (cf' := (17, [some (.ref 0), some (.int v16), none], [.int 0, .int 0, .int 0, .int 0, .int 0, .int 100, .int 110, .int 97, .ref 0], hT g a (nI fr) (nI n) e16 tk16 pp16 w16 op16 1 (nI q16))) rfl trivial ?_
    refine P0.cd (d0 := 2) (as := [.ref 0, .int 97, .int 110, .int 100, .int 0, .int 0, .int 0, .int 0, .int 0]) (rest := []) (r1 := some (.int 0)) (h1 := hT g a (nI fr) (nI n) e16 tk16 pp16 w16 op16 1 (nI q16)) (st' := [.int 0]) GX11_isWord kX11_both5_17 rfl ⟨_, _, rfl, rfl, .inl ⟨_, _, _, _, rfl, rfl⟩⟩ (Nat.le_of_ble_eq_true rfl) (Nat.le_of_ble_eq_true rfl) (e_isWord_bad (c0 := 97) (c1 := 110) (c2 := 100) (c3 := 0) (c4 := 0) (c5 := 0) (c6 := 0) (c7 := 0)) (Nat.le_of_ble_eq_true rfl) rfl (Nat.le_of_ble_eq_true rfl) rfl ?_
    refine P0.b GX11_both5 2 (ob := []) (cf' := (50, [some (.ref 0), some (.int v16), none], [.int v16], hT g a (nI fr) (nI n) e16 tk16 pp16 w16 op16 1 (nI q16))) rfl trivial ?_
    exact P0.ri (by decide +kernel) rfl rfl (QP.no (pc0_no hR16) v16 e16 tk16 pp16 w16 op16)
  · rw [hR16] at hq16
    obtain ⟨w16, fl16, rfl, rfl, hw16, hp16⟩ := hq16
    show P0 _ _ _ _ (4, [some (.ref 0), none, none], [.int x16], hT g a (nI fr) (nI n) (nI (en (Bt (a 1) fr n) p16)) (kd (Bt (a 1) fr n) p16) (nI p16) w16 op 0 fl16) _
    refine P0.b GX11_both5 1 (ob := []) (cf' := (5, [some (.ref 0), some (.int x16), none], [], hT g a (nI fr) (nI n) (nI (en (Bt (a 1) fr n) p16)) (kd (Bt (a 1) fr n) p16) (nI p16) w16 op 0 fl16)) rfl trivial ?_
    rw [pc0_yes hR16]
    exact lp_X11_both5 hT0 hop 200 _ _ _ _ hw16 hp16 (by have := hT0.2.1; omega)
set_option maxHeartbeats 2000000 in
theorem lp_X11_either5 {g : Nat → Int32} {a : Nat → Nat → Int32} {fr n : Nat} (hT0 : TxOK a fr n) {op : Int32} (hop : op = 5) : ∀ (f : Nat) (x : Int32) (p : Nat) (w : Int64) (fl : Int32), wOK (Bt (a 1) fr n) p w → p ≤ n → n ≤ p + f → P0 9 0 0 mX11_either5 (5, [some (.ref 0), some (.int x), none], [], hT g a (nI fr) (nI n) (nI (en (Bt (a 1) fr n) p)) (kd (Bt (a 1) fr n) p) (nI p) w op 0 fl) (QP g a fr n op (pch (sg (Bt (a 1) fr n)) (nx (Bt (a 1) fr n)) (vA g).2.2 jEith (pboth (sg (Bt (a 1) fr n)) (nx (Bt (a 1) fr n)) (vA g) false .inl .inl .inl) f x p))
  | 0, x, p, w, fl, hw, hp, hpf => by
    refine P0.b GX11_either5 9 (ob := []) (cf' := (16, [some (.ref 0), some (.int x), none], [.int 0, .int 0, .int 0, .int 0, .int 0, .int 0, .int 114, .int 111, .ref 0], hT g a (nI fr) (nI n) (nI (en (Bt (a 1) fr n) p)) (kd (Bt (a 1) fr n) p) (nI p) w op 0 fl)) rfl trivial ?_
    refine P0.cd (d0 := 2) (as := [.ref 0, .int 111, .int 114, .int 0, .int 0, .int 0, .int 0, .int 0, .int 0]) (rest := []) (r1 := some (.int (if sg (Bt (a 1) fr n) p = (-10) then 1 else 0))) (h1 := hT g a (nI fr) (nI n) (nI (en (Bt (a 1) fr n) p)) (kd (Bt (a 1) fr n) p) (nI p) w op 0 fl) (st' := [.int (if sg (Bt (a 1) fr n) p = (-10) then 1 else 0)]) GX11_isWord kX11_either5_16 rfl ⟨_, _, rfl, rfl, .inl ⟨_, _, _, _, rfl, rfl⟩⟩ (Nat.le_of_ble_eq_true rfl) (Nat.le_of_ble_eq_true rfl) (e_isWord_ok hT0 hp (cs := [111, 114]) (code := (-10)) (by decide +kernel) (by decide) (by decide)) (Nat.le_of_ble_eq_true rfl) rfl (Nat.le_of_ble_eq_true rfl) rfl ?_
    refine P0.b GX11_either5 1 (ob := []) (cf' := (if (if sg (Bt (a 1) fr n) p = (-10) then 1 else 0) = 0 then 48 else 22, [some (.ref 0), some (.int x), none], [], hT g a (nI fr) (nI n) (nI (en (Bt (a 1) fr n) p)) (kd (Bt (a 1) fr n) p) (nI p) w op 0 fl)) rfl trivial ?_
    rw [if_neg (show ¬ (sg (Bt (a 1) fr n) p = (-10)) from by rw [sg_end hpf]; decide), if_pos rfl]
    refine P0.b GX11_either5 1 (ob := []) (cf' := (49, [some (.ref 0), some (.int x), none], [.int x], hT g a (nI fr) (nI n) (nI (en (Bt (a 1) fr n) p)) (kd (Bt (a 1) fr n) p) (nI p) w op 0 fl)) rfl trivial ?_
    exact P0.ri (by decide +kernel) rfl rfl (QP.yes rfl hw hp)
  | f + 1, x, p, w, fl, hw, hp, hpf => by
    refine P0.b GX11_either5 9 (ob := []) (cf' := (16, [some (.ref 0), some (.int x), none], [.int 0, .int 0, .int 0, .int 0, .int 0, .int 0, .int 114, .int 111, .ref 0], hT g a (nI fr) (nI n) (nI (en (Bt (a 1) fr n) p)) (kd (Bt (a 1) fr n) p) (nI p) w op 0 fl)) rfl trivial ?_
    refine P0.cd (d0 := 2) (as := [.ref 0, .int 111, .int 114, .int 0, .int 0, .int 0, .int 0, .int 0, .int 0]) (rest := []) (r1 := some (.int (if sg (Bt (a 1) fr n) p = (-10) then 1 else 0))) (h1 := hT g a (nI fr) (nI n) (nI (en (Bt (a 1) fr n) p)) (kd (Bt (a 1) fr n) p) (nI p) w op 0 fl) (st' := [.int (if sg (Bt (a 1) fr n) p = (-10) then 1 else 0)]) GX11_isWord kX11_either5_16 rfl ⟨_, _, rfl, rfl, .inl ⟨_, _, _, _, rfl, rfl⟩⟩ (Nat.le_of_ble_eq_true rfl) (Nat.le_of_ble_eq_true rfl) (e_isWord_ok hT0 hp (cs := [111, 114]) (code := (-10)) (by decide +kernel) (by decide) (by decide)) (Nat.le_of_ble_eq_true rfl) rfl (Nat.le_of_ble_eq_true rfl) rfl ?_
    refine P0.b GX11_either5 1 (ob := []) (cf' := (if (if sg (Bt (a 1) fr n) p = (-10) then 1 else 0) = 0 then 48 else 22, [some (.ref 0), some (.int x), none], [], hT g a (nI fr) (nI n) (nI (en (Bt (a 1) fr n) p)) (kd (Bt (a 1) fr n) p) (nI p) w op 0 fl)) rfl trivial ?_
    refine P0.ifB (fun h1 => ?_) (fun h1 => ?_)
    · refine P0.b GX11_either5 1 (ob := []) (cf' := (49, [some (.ref 0), some (.int x), none], [.int x], hT g a (nI fr) (nI n) (nI (en (Bt (a 1) fr n) p)) (kd (Bt (a 1) fr n) p) (nI p) w op 0 fl)) rfl trivial ?_
      exact P0.ri (by decide +kernel) rfl rfl (QP.yes (pch_stop (show jEith (sg (Bt (a 1) fr n) p) = false from by simp only [jEith]; exact decide_eq_false h1)) hw hp)
    · refine P0.b GX11_either5 1 (ob := []) (cf' := (23, [some (.ref 0), some (.int x), none], [.ref 0], hT g a (nI fr) (nI n) (nI (en (Bt (a 1) fr n) p)) (kd (Bt (a 1) fr n) p) (nI p) w op 0 fl)) rfl trivial ?_
      refine P0.cs (as := [.ref 0]) (rest := []) GX11_nextToken kX11_either5_23 rfl ⟨_, _, rfl, rfl, .inl ⟨_, _, _, _, rfl, rfl⟩⟩ (Nat.le_of_ble_eq_true rfl) (Nat.le_of_ble_eq_true rfl) (P0.mono (e_X11_nextToken hT0 (en (Bt (a 1) fr n) p) (en_le hp) _ _ _ _ _ _) (Nat.le_of_ble_eq_true rfl) (Nat.zero_le _) (Nat.zero_le _) (fun _ _ q => q)) (Nat.le_of_ble_eq_true rfl) (fun _ _ q => q.len) ?_
      rintro _ _ ⟨w17, rfl, rfl, hw17⟩
      have hp17 := nx_le (f := a 1) (fr := fr) hp
      show P0 _ _ _ _ (26, [some (.ref 0), some (.int x), none], [], hT g a (nI fr) (nI n) (nI (en (Bt (a 1) fr n) (nx (Bt (a 1) fr n) p))) (kd (Bt (a 1) fr n) (nx (Bt (a 1) fr n) p)) (nI (nx (Bt (a 1) fr n) p)) w17 op 0 fl) _
      refine P0.b GX11_either5 1 (ob := []) (cf' := (27, [some (.ref 0), some (.int x), none], [.ref 0], hT g a (nI fr) (nI n) (nI (en (Bt (a 1) fr n) (nx (Bt (a 1) fr n) p))) (kd (Bt (a 1) fr n) (nx (Bt (a 1) fr n) p)) (nI (nx (Bt (a 1) fr n) p)) w17 op 0 fl)) rfl trivial ?_
      refine P0.cs (as := [.ref 0]) (rest := []) GX11_both5 kX11_either5_27 rfl ⟨_, _, rfl, rfl, .inl ⟨_, _, _, _, rfl, rfl⟩⟩ (Nat.le_of_ble_eq_true rfl) (Nat.le_of_ble_eq_true rfl) (P0.mono (e_X11_both5 hT0 hw17 hp17 (op := op) hop) (Nat.le_of_ble_eq_true rfl) (Nat.zero_le _) (Nat.zero_le _) (fun _ _ q => q)) (Nat.le_of_ble_eq_true rfl) (fun _ _ q => q.len) ?_
      rintro r1018 h1018 hq18
      have hq18 : QP g a fr n op (pboth (sg (Bt (a 1) fr n)) (nx (Bt (a 1) fr n)) (vA g) false .inl .inl .inl (nx (Bt (a 1) fr n) p)) r1018 h1018 := hq18
      rcases hR18 : pboth (sg (Bt (a 1) fr n)) (nx (Bt (a 1) fr n)) (vA g) false .inl .inl .inl (nx (Bt (a 1) fr n) p) with q18 | ⟨x18, p18⟩
      · rw [hR18] at hq18
        obtain ⟨v18, e18, tk18, pp18, w18, op18, rfl, rfl⟩ := hq18
        show P0 _ _ _ _ (30, [some (.ref 0), some (.int x), none], [.int v18], hT g a (nI fr) (nI n) e18 tk18 pp18 w18 op18 1 (nI q18)) _
        refine P0.b GX11_either5 3 (ob := []) (cf' := (if x = 0 then 35 else 39, [some (.ref 0), some (.int x), some (.int v18)], [], hT g a (nI fr) (nI n) e18 tk18 pp18 w18 op18 1 (nI q18))) rfl trivial ?_
        refine P0.if (fun h2 => ?_) (fun h2 => ?_)
        · refine P0.b GX11_either5 2 (ob := []) (cf' := (if v18 = 0 then 43 else 39, [some (.ref 0), some (.int x), some (.int v18)], [], hT g a (nI fr) (nI n) e18 tk18 pp18 w18 op18 1 (nI q18))) rfl trivial ?_
          refine P0.if (fun h3 => ?_) (fun h3 => ?_)
          · refine P0.b GX11_either5 3 (ob := []) (cf' := (5, [some (.ref 0), some (.int 0), some (.int v18)], [], hT g a (nI fr) (nI n) e18 tk18 pp18 w18 op18 1 (nI q18))) rfl trivial ?_
            refine P0.b GX11_either5 9 (ob := []) (cf' := (16, [some (.ref 0), some (.int 0), some (.int v18)], [.int 0, .int 0, .int 0, .int 0, .int 0, .int 0, .int 114, .int 111, .ref 0], hT g a (nI fr) (nI n) e18 tk18 pp18 w18 op18 1 (nI q18))) rfl trivial ?_
            refine P0.cd (d0 := 2) (as := [.ref 0, .int 111, .int 114, .int 0, .int 0, .int 0, .int 0, .int 0, .int 0]) (rest := []) (r1 := some (.int 0)) (h1 := hT g a (nI fr) (nI n) e18 tk18 pp18 w18 op18 1 (nI q18)) (st' := [.int 0]) GX11_isWord kX11_either5_16 rfl ⟨_, _, rfl, rfl, .inl ⟨_, _, _, _, rfl, rfl⟩⟩ (Nat.le_of_ble_eq_true rfl) (Nat.le_of_ble_eq_true rfl) (e_isWord_bad (c0 := 111) (c1 := 114) (c2 := 0) (c3 := 0) (c4 := 0) (c5 := 0) (c6 := 0) (c7 := 0)) (Nat.le_of_ble_eq_true rfl) rfl (Nat.le_of_ble_eq_true rfl) rfl ?_
            refine P0.b GX11_either5 2 (ob := []) (cf' := (49, [some (.ref 0), some (.int 0), some (.int v18)], [.int 0], hT g a (nI fr) (nI n) e18 tk18 pp18 w18 op18 1 (nI q18))) rfl trivial ?_
            exact P0.ri (by decide +kernel) rfl rfl (QP.no (pch_fail (show jEith (sg (Bt (a 1) fr n) p) = true from by rw [h1]; decide) hR18) 0 e18 tk18 pp18 w18 op18)
          · refine P0.b GX11_either5 4 (ob := []) (cf' := (5, [some (.ref 0), some (.int 1), some (.int v18)], [], hT g a (nI fr) (nI n) e18 tk18 pp18 w18 op18 1 (nI q18))) rfl trivial ?_
            refine P0.b GX11_either5 9 (ob := []) (cf' := (16, [some (.ref 0), some (.int 1), some (.int v18)], [.int 0, .int 0, .int 0, .int 0, .int 0, .int 0, .int 114, .int 111, .ref 0], hT g a (nI fr) (nI n) e18 tk18 pp18 w18 op18 1 (nI q18))) rfl trivial ?_
            refine P0.cd (d0 := 2) (as := [.ref 0, .int 111, .int 114, .int 0, .int 0, .int 0, .int 0, .int 0, .int 0]) (rest := []) (r1 := some (.int 0)) (h1 := hT g a (nI fr) (nI n) e18 tk18 pp18 w18 op18 1 (nI q18)) (st' := [.int 0]) GX11_isWord kX11_either5_16 rfl ⟨_, _, rfl, rfl, .inl ⟨_, _, _, _, rfl, rfl⟩⟩ (Nat.le_of_ble_eq_true rfl) (Nat.le_of_ble_eq_true rfl) (e_isWord_bad (c0 := 111) (c1 := 114) (c2 := 0) (c3 := 0) (c4 := 0) (c5 := 0) (c6 := 0) (c7 := 0)) (Nat.le_of_ble_eq_true rfl) rfl (Nat.le_of_ble_eq_true rfl) rfl ?_
            refine P0.b GX11_either5 2 (ob := []) (cf' := (49, [some (.ref 0), some (.int 1), some (.int v18)], [.int 1], hT g a (nI fr) (nI n) e18 tk18 pp18 w18 op18 1 (nI q18))) rfl trivial ?_
            exact P0.ri (by decide +kernel) rfl rfl (QP.no (pch_fail (show jEith (sg (Bt (a 1) fr n) p) = true from by rw [h1]; decide) hR18) 1 e18 tk18 pp18 w18 op18)
        · refine P0.b GX11_either5 4 (ob := []) (cf' := (5, [some (.ref 0), some (.int 1), some (.int v18)], [], hT g a (nI fr) (nI n) e18 tk18 pp18 w18 op18 1 (nI q18))) rfl trivial ?_
          refine P0.b GX11_either5 9 (ob := []) (cf' := (16, [some (.ref 0), some (.int 1), some (.int v18)], [.int 0, .int 0, .int 0, .int 0, .int 0, .int 0, .int 114, .int 111, .ref 0], hT g a (nI fr) (nI n) e18 tk18 pp18 w18 op18 1 (nI q18))) rfl trivial ?_
          refine P0.cd (d0 := 2) (as := [.ref 0, .int 111, .int 114, .int 0, .int 0, .int 0, .int 0, .int 0, .int 0]) (rest := []) (r1 := some (.int 0)) (h1 := hT g a (nI fr) (nI n) e18 tk18 pp18 w18 op18 1 (nI q18)) (st' := [.int 0]) GX11_isWord kX11_either5_16 rfl ⟨_, _, rfl, rfl, .inl ⟨_, _, _, _, rfl, rfl⟩⟩ (Nat.le_of_ble_eq_true rfl) (Nat.le_of_ble_eq_true rfl) (e_isWord_bad (c0 := 111) (c1 := 114) (c2 := 0) (c3 := 0) (c4 := 0) (c5 := 0) (c6 := 0) (c7 := 0)) (Nat.le_of_ble_eq_true rfl) rfl (Nat.le_of_ble_eq_true rfl) rfl ?_
          refine P0.b GX11_either5 2 (ob := []) (cf' := (49, [some (.ref 0), some (.int 1), some (.int v18)], [.int 1], hT g a (nI fr) (nI n) e18 tk18 pp18 w18 op18 1 (nI q18))) rfl trivial ?_
          exact P0.ri (by decide +kernel) rfl rfl (QP.no (pch_fail (show jEith (sg (Bt (a 1) fr n) p) = true from by rw [h1]; decide) hR18) 1 e18 tk18 pp18 w18 op18)
      · rw [hR18] at hq18
        obtain ⟨w18, fl18, rfl, rfl, hw18, hp18⟩ := hq18
        show P0 _ _ _ _ (30, [some (.ref 0), some (.int x), none], [.int x18], hT g a (nI fr) (nI n) (nI (en (Bt (a 1) fr n) p18)) (kd (Bt (a 1) fr n) p18) (nI p18) w18 op 0 fl18) _
        refine P0.b GX11_either5 3 (ob := []) (cf' := (if x = 0 then 35 else 39, [some (.ref 0), some (.int x), some (.int x18)], [], hT g a (nI fr) (nI n) (nI (en (Bt (a 1) fr n) p18)) (kd (Bt (a 1) fr n) p18) (nI p18) w18 op 0 fl18)) rfl trivial ?_
        refine P0.if (fun h4 => ?_) (fun h4 => ?_)
        · refine P0.b GX11_either5 2 (ob := []) (cf' := (if x18 = 0 then 43 else 39, [some (.ref 0), some (.int x), some (.int x18)], [], hT g a (nI fr) (nI n) (nI (en (Bt (a 1) fr n) p18)) (kd (Bt (a 1) fr n) p18) (nI p18) w18 op 0 fl18)) rfl trivial ?_
          refine P0.if (fun h5 => ?_) (fun h5 => ?_)
          · refine P0.b GX11_either5 3 (ob := []) (cf' := (5, [some (.ref 0), some (.int 0), some (.int x18)], [], hT g a (nI fr) (nI n) (nI (en (Bt (a 1) fr n) p18)) (kd (Bt (a 1) fr n) p18) (nI p18) w18 op 0 fl18)) rfl trivial ?_
            rw [pch_step (show jEith (sg (Bt (a 1) fr n) p) = true from by rw [h1]; decide) hR18, show (vA g).2.2 (sg (Bt (a 1) fr n) p) x x18 = (0 : Int32) from by rw [h1]; simp [vA, vBn, h4, h5]]
            refine P0.forget (ls' := [some (.ref 0), some (.int 0), none]) ⟨.inr rfl, .inr rfl, .inl rfl, trivial⟩ ?_
            exact lp_X11_either5 hT0 hop f _ _ _ _ hw18 hp18 (by have h1 := nx_lt (B := (Bt (a 1) fr n)) (p := p) (by rw [h1]; decide) (by rw [h1]; decide); have h2 := (prog_c0 nx_lt jB_ok (prog_not' nx_lt prog_inl prog_inl prog_inl)) _ _ _ hR18; omega)
          · refine P0.b GX11_either5 4 (ob := []) (cf' := (5, [some (.ref 0), some (.int 1), some (.int x18)], [], hT g a (nI fr) (nI n) (nI (en (Bt (a 1) fr n) p18)) (kd (Bt (a 1) fr n) p18) (nI p18) w18 op 0 fl18)) rfl trivial ?_
            rw [pch_step (show jEith (sg (Bt (a 1) fr n) p) = true from by rw [h1]; decide) hR18, show (vA g).2.2 (sg (Bt (a 1) fr n) p) x x18 = (1 : Int32) from by rw [h1]; simp [vA, vBn, h4, h5]]
            refine P0.forget (ls' := [some (.ref 0), some (.int 1), none]) ⟨.inr rfl, .inr rfl, .inl rfl, trivial⟩ ?_
            exact lp_X11_either5 hT0 hop f _ _ _ _ hw18 hp18 (by have h1 := nx_lt (B := (Bt (a 1) fr n)) (p := p) (by rw [h1]; decide) (by rw [h1]; decide); have h2 := (prog_c0 nx_lt jB_ok (prog_not' nx_lt prog_inl prog_inl prog_inl)) _ _ _ hR18; omega)
        · refine P0.b GX11_either5 4 (ob := []) (cf' := (5, [some (.ref 0), some (.int 1), some (.int x18)], [], hT g a (nI fr) (nI n) (nI (en (Bt (a 1) fr n) p18)) (kd (Bt (a 1) fr n) p18) (nI p18) w18 op 0 fl18)) rfl trivial ?_
          rw [pch_step (show jEith (sg (Bt (a 1) fr n) p) = true from by rw [h1]; decide) hR18, show (vA g).2.2 (sg (Bt (a 1) fr n) p) x x18 = (1 : Int32) from by rw [h1]; simp [vA, vBn, h4]]
          refine P0.forget (ls' := [some (.ref 0), some (.int 1), none]) ⟨.inr rfl, .inr rfl, .inl rfl, trivial⟩ ?_
          exact lp_X11_either5 hT0 hop f _ _ _ _ hw18 hp18 (by have h1 := nx_lt (B := (Bt (a 1) fr n)) (p := p) (by rw [h1]; decide) (by rw [h1]; decide); have h2 := (prog_c0 nx_lt jB_ok (prog_not' nx_lt prog_inl prog_inl prog_inl)) _ _ _ hR18; omega)
set_option maxHeartbeats 2000000 in
theorem e_X11_either5 {g : Nat → Int32} {a : Nat → Nat → Int32} {fr n : Nat} (hT0 : TxOK a fr n) {p : Nat} {w : Int64} {fl : Int32} (hw : wOK (Bt (a 1) fr n) p w) (hp : p ≤ n) {op : Int32} (hop : op = 5) : P0 9 0 0 mX11_either5 (0, ent 3 [.ref 0], [], hT g a (nI fr) (nI n) (nI (en (Bt (a 1) fr n) p)) (kd (Bt (a 1) fr n) p) (nI p) w op 0 fl) (QP g a fr n op (lvl (sg (Bt (a 1) fr n)) (nx (Bt (a 1) fr n)) (vA g) 0 0 p)) := by
  show P0 _ _ _ _ _ (QP g a fr n op (pc0 (sg (Bt (a 1) fr n)) (nx (Bt (a 1) fr n)) (vA g).2.2 jEith (pboth (sg (Bt (a 1) fr n)) (nx (Bt (a 1) fr n)) (vA g) false .inl .inl .inl) p))
  refine P0.b GX11_either5 1 (ob := []) (cf' := (1, [some (.ref 0), none, none], [.ref 0], hT g a (nI fr) (nI n) (nI (en (Bt (a 1) fr n) p)) (kd (Bt (a 1) fr n) p) (nI p) w op 0 fl)) rfl trivial ?_
  refine P0.cs (as := [.ref 0]) (rest := []) GX11_both5 kX11_either5_1 rfl ⟨_, _, rfl, rfl, .inl ⟨_, _, _, _, rfl, rfl⟩⟩ (Nat.le_of_ble_eq_true rfl) (Nat.le_of_ble_eq_true rfl) (P0.mono (e_X11_both5 hT0 hw hp (op := op) hop) (Nat.le_of_ble_eq_true rfl) (Nat.zero_le _) (Nat.zero_le _) (fun _ _ q => q)) (Nat.le_of_ble_eq_true rfl) (fun _ _ q => q.len) ?_
  rintro r1019 h1019 hq19
  have hq19 : QP g a fr n op (pboth (sg (Bt (a 1) fr n)) (nx (Bt (a 1) fr n)) (vA g) false .inl .inl .inl p) r1019 h1019 := hq19
  rcases hR19 : pboth (sg (Bt (a 1) fr n)) (nx (Bt (a 1) fr n)) (vA g) false .inl .inl .inl p with q19 | ⟨x19, p19⟩
  · rw [hR19] at hq19
    obtain ⟨v19, e19, tk19, pp19, w19, op19, rfl, rfl⟩ := hq19
    show P0 _ _ _ _ (4, [some (.ref 0), none, none], [.int v19], hT g a (nI fr) (nI n) e19 tk19 pp19 w19 op19 1 (nI q19)) _
    refine P0.b GX11_either5 1 (ob := []) (cf' := (5, [some (.ref 0), some (.int v19), none], [], hT g a (nI fr) (nI n) e19 tk19 pp19 w19 op19 1 (nI q19))) rfl trivial ?_
    refine P0.b GX11_either5 9 (ob := []) (cf' := (16, [some (.ref 0), some (.int v19), none], [.int 0, .int 0, .int 0, .int 0, .int 0, .int 0, .int 114, .int 111, .ref 0], hT g a (nI fr) (nI n) e19 tk19 pp19 w19 op19 1 (nI q19))) rfl trivial ?_
    refine P0.cd (d0 := 2) (as := [.ref 0, .int 111, .int 114, .int 0, .int 0, .int 0, .int 0, .int 0, .int 0]) (rest := []) (r1 := some (.int 0)) (h1 := hT g a (nI fr) (nI n) e19 tk19 pp19 w19 op19 1 (nI q19)) (st' := [.int 0]) GX11_isWord kX11_either5_16 rfl ⟨_, _, rfl, rfl, .inl ⟨_, _, _, _, rfl, rfl⟩⟩ (Nat.le_of_ble_eq_true rfl) (Nat.le_of_ble_eq_true rfl) (e_isWord_bad (c0 := 111) (c1 := 114) (c2 := 0) (c3 := 0) (c4 := 0) (c5 := 0) (c6 := 0) (c7 := 0)) (Nat.le_of_ble_eq_true rfl) rfl (Nat.le_of_ble_eq_true rfl) rfl ?_
    refine P0.b GX11_either5 2 (ob := []) (cf' := (49, [some (.ref 0), some (.int v19), none], [.int v19], hT g a (nI fr) (nI n) e19 tk19 pp19 w19 op19 1 (nI q19))) rfl trivial ?_
    exact P0.ri (by decide +kernel) rfl rfl (QP.no (pc0_no hR19) v19 e19 tk19 pp19 w19 op19)
  · rw [hR19] at hq19
    obtain ⟨w19, fl19, rfl, rfl, hw19, hp19⟩ := hq19
    show P0 _ _ _ _ (4, [some (.ref 0), none, none], [.int x19], hT g a (nI fr) (nI n) (nI (en (Bt (a 1) fr n) p19)) (kd (Bt (a 1) fr n) p19) (nI p19) w19 op 0 fl19) _
    refine P0.b GX11_either5 1 (ob := []) (cf' := (5, [some (.ref 0), some (.int x19), none], [], hT g a (nI fr) (nI n) (nI (en (Bt (a 1) fr n) p19)) (kd (Bt (a 1) fr n) p19) (nI p19) w19 op 0 fl19)) rfl trivial ?_
    rw [pc0_yes hR19]
    exact lp_X11_either5 hT0 hop 200 _ _ _ _ hw19 hp19 (by have := hT0.2.1; omega)
