/-! ===== laid by program (wip/tools) ===== -/
set_option maxHeartbeats 2000000 in
theorem e_X11_atom2 {g : Nat → Int32} {a : Nat → Nat → Int32} {fr n : Nat} (hT0 : TxOK a fr n) {p : Nat} {w : Int64} {fl : Int32} (hw : wOK (Bt (a 1) fr n) p w) (hp : p ≤ n) {op : Int32} (hop : op = 2) : P0 22 0 0 mX11_atom2 (0, ent 2 [.ref 0], [], hT g a (nI fr) (nI n) (nI (en (Bt (a 1) fr n) p)) (kd (Bt (a 1) fr n) p) (nI p) w op 0 fl) (QP g a fr n op (lvl (sg (Bt (a 1) fr n)) (nx (Bt (a 1) fr n)) (vA g) 3 2 p)) := by
  show P0 _ _ _ _ _ (QP g a fr n op (pone (sg (Bt (a 1) fr n)) (nx (Bt (a 1) fr n)) (vA g) true (lvl (sg (Bt (a 1) fr n)) (nx (Bt (a 1) fr n)) (vA g) 2 0) (lvl (sg (Bt (a 1) fr n)) (nx (Bt (a 1) fr n)) (vA g) 2 2) p))
  refine P0.b GX11_atom2 4 (ob := []) (cf' := (5, [some (.ref 0), some (.int 0)], [.int 45, .ref 0], hT g a (nI fr) (nI n) (nI (en (Bt (a 1) fr n) p)) (kd (Bt (a 1) fr n) p) (nI p) w op 0 fl)) rfl trivial ?_
  refine P0.cd (d0 := 0) (as := [.ref 0, .int 45]) (rest := []) (r1 := some (.int (if sg (Bt (a 1) fr n) p = (-17) then 1 else 0))) (h1 := hT g a (nI fr) (nI n) (nI (en (Bt (a 1) fr n) p)) (kd (Bt (a 1) fr n) p) (nI p) w op 0 fl) (st' := [.int (if sg (Bt (a 1) fr n) p = (-17) then 1 else 0)]) GX11_isSign kX11_atom2_5 rfl ⟨_, _, rfl, rfl, .inl ⟨_, _, _, _, rfl, rfl⟩⟩ (Nat.le_of_ble_eq_true rfl) (Nat.le_of_ble_eq_true rfl) (e_isSign_ok hw (c := 45) (code := (-17)) (by decide +kernel)) (Nat.le_of_ble_eq_true rfl) rfl (Nat.le_of_ble_eq_true rfl) rfl ?_
  refine P0.b GX11_atom2 1 (ob := []) (cf' := (if (if sg (Bt (a 1) fr n) p = (-17) then 1 else 0) = 0 then 37 else 11, [some (.ref 0), some (.int 0)], [], hT g a (nI fr) (nI n) (nI (en (Bt (a 1) fr n) p)) (kd (Bt (a 1) fr n) p) (nI p) w op 0 fl)) rfl trivial ?_
  refine P0.ifB (fun h1 => ?_) (fun h1 => ?_)
  · refine P0.b GX11_atom2 2 (ob := []) (cf' := (40, [some (.ref 0), some (.int 0)], [.int 40, .ref 0], hT g a (nI fr) (nI n) (nI (en (Bt (a 1) fr n) p)) (kd (Bt (a 1) fr n) p) (nI p) w op 0 fl)) rfl trivial ?_
    refine P0.cd (d0 := 0) (as := [.ref 0, .int 40]) (rest := []) (r1 := some (.int (if sg (Bt (a 1) fr n) p = (-13) then 1 else 0))) (h1 := hT g a (nI fr) (nI n) (nI (en (Bt (a 1) fr n) p)) (kd (Bt (a 1) fr n) p) (nI p) w op 0 fl) (st' := [.int (if sg (Bt (a 1) fr n) p = (-13) then 1 else 0)]) GX11_isSign kX11_atom2_40 rfl ⟨_, _, rfl, rfl, .inl ⟨_, _, _, _, rfl, rfl⟩⟩ (Nat.le_of_ble_eq_true rfl) (Nat.le_of_ble_eq_true rfl) (e_isSign_ok hw (c := 40) (code := (-13)) (by decide +kernel)) (Nat.le_of_ble_eq_true rfl) rfl (Nat.le_of_ble_eq_true rfl) rfl ?_
    refine P0.b GX11_atom2 1 (ob := []) (cf' := (if (if sg (Bt (a 1) fr n) p = (-13) then 1 else 0) = 0 then 95 else 46, [some (.ref 0), some (.int 0)], [], hT g a (nI fr) (nI n) (nI (en (Bt (a 1) fr n) p)) (kd (Bt (a 1) fr n) p) (nI p) w op 0 fl)) rfl trivial ?_
    refine P0.ifB (fun h2 => ?_) (fun h2 => ?_)
    · refine P0.b GX11_atom2 7 (ob := []) (cf' := (if kd (Bt (a 1) fr n) p = 2 then 110 else 123, [some (.ref 0), some (.int 0)], [], hT g a (nI fr) (nI n) (nI (en (Bt (a 1) fr n) p)) (kd (Bt (a 1) fr n) p) (nI p) w op 0 fl)) rfl trivial ?_
      refine P0.if (fun h3 => ?_) (fun h3 => ?_)
      · refine P0.b GX11_atom2 5 (ob := []) (cf' := (117, [some (.ref 0), some (.int w.toInt32)], [.ref 0], hT g a (nI fr) (nI n) (nI (en (Bt (a 1) fr n) p)) (kd (Bt (a 1) fr n) p) (nI p) w op 0 fl)) rfl trivial ?_
        refine P0.cs (as := [.ref 0]) (rest := []) GX11_nextToken kX11_atom2_117 rfl ⟨_, _, rfl, rfl, .inl ⟨_, _, _, _, rfl, rfl⟩⟩ (Nat.le_of_ble_eq_true rfl) (Nat.le_of_ble_eq_true rfl) (P0.mono (e_X11_nextToken hT0 (en (Bt (a 1) fr n) p) (en_le hp) _ _ _ _ _ _) (Nat.le_of_ble_eq_true rfl) (Nat.zero_le _) (Nat.zero_le _) (fun _ _ q => q)) (Nat.le_of_ble_eq_true rfl) (fun _ _ q => q.len) ?_
        rintro _ _ ⟨w78, rfl, rfl, hw78⟩
        have hp78 := nx_le (f := a 1) (fr := fr) hp
        show P0 _ _ _ _ (120, [some (.ref 0), some (.int w.toInt32)], [], hT g a (nI fr) (nI n) (nI (en (Bt (a 1) fr n) (nx (Bt (a 1) fr n) p))) (kd (Bt (a 1) fr n) (nx (Bt (a 1) fr n) p)) (nI (nx (Bt (a 1) fr n) p)) w78 op 0 fl) _
        refine P0.b GX11_atom2 2 (ob := []) (cf' := (162, [some (.ref 0), some (.int w.toInt32)], [.int w.toInt32], hT g a (nI fr) (nI n) (nI (en (Bt (a 1) fr n) (nx (Bt (a 1) fr n) p))) (kd (Bt (a 1) fr n) (nx (Bt (a 1) fr n) p)) (nI (nx (Bt (a 1) fr n) p)) w78 op 0 fl)) rfl trivial ?_
        exact P0.ri (by decide +kernel) rfl rfl (QP.yes (pone_num h3 hw) hw78 hp78)
      · refine P0.b GX11_atom2 7 (ob := []) (cf' := (if kd (Bt (a 1) fr n) p = 1 then 138 else 157, [some (.ref 0), some (.int 0)], [], hT g a (nI fr) (nI n) (nI (en (Bt (a 1) fr n) p)) (kd (Bt (a 1) fr n) p) (nI p) w op 0 fl)) rfl trivial ?_
        refine P0.if (fun h4 => ?_) (fun h4 => ?_)
        · refine P0.b GX11_atom2 1 (ob := []) (cf' := (139, [some (.ref 0), some (.int 0)], [.ref 0], hT g a (nI fr) (nI n) (nI (en (Bt (a 1) fr n) p)) (kd (Bt (a 1) fr n) p) (nI p) w op 0 fl)) rfl trivial ?_
          refine P0.cs (as := [.ref 0]) (rest := []) GX11_name kX11_atom2_139 rfl ⟨_, _, rfl, rfl, .inl ⟨_, _, _, _, rfl, rfl⟩⟩ (Nat.le_of_ble_eq_true rfl) (Nat.le_of_ble_eq_true rfl) (P0.mono (e_X11_name hT0 hw hp h4) (Nat.le_of_ble_eq_true rfl) (Nat.zero_le _) (Nat.zero_le _) (fun _ _ q => q)) (Nat.le_of_ble_eq_true rfl) (fun _ _ q => by rcases q with ⟨_, _, rfl⟩ | ⟨_, _, rfl⟩ <;> exact hT_len.trans hT_len.symm) ?_
          rintro _ _ (⟨hN79, rfl, rfl⟩ | ⟨hN79, rfl, rfl⟩)
          · show P0 _ _ _ _ (142, [some (.ref 0), some (.int 0)], [.int (vNm g (sg (Bt (a 1) fr n) p))], hT g a (nI fr) (nI n) (nI (en (Bt (a 1) fr n) p)) (kd (Bt (a 1) fr n) p) (nI p) w op 0 fl) _
            refine P0.b GX11_atom2 5 (ob := []) (cf' := (151, [some (.ref 0), some (.int (vNm g (sg (Bt (a 1) fr n) p)))], [.ref 0], hT g a (nI fr) (nI n) (nI (en (Bt (a 1) fr n) p)) (kd (Bt (a 1) fr n) p) (nI p) w op 0 fl)) rfl trivial ?_
            refine P0.cs (as := [.ref 0]) (rest := []) GX11_nextToken kX11_atom2_151 rfl ⟨_, _, rfl, rfl, .inl ⟨_, _, _, _, rfl, rfl⟩⟩ (Nat.le_of_ble_eq_true rfl) (Nat.le_of_ble_eq_true rfl) (P0.mono (e_X11_nextToken hT0 (en (Bt (a 1) fr n) p) (en_le hp) _ _ _ _ _ _) (Nat.le_of_ble_eq_true rfl) (Nat.zero_le _) (Nat.zero_le _) (fun _ _ q => q)) (Nat.le_of_ble_eq_true rfl) (fun _ _ q => q.len) ?_
            rintro _ _ ⟨w80, rfl, rfl, hw80⟩
            have hp80 := nx_le (f := a 1) (fr := fr) hp
            show P0 _ _ _ _ (154, [some (.ref 0), some (.int (vNm g (sg (Bt (a 1) fr n) p)))], [], hT g a (nI fr) (nI n) (nI (en (Bt (a 1) fr n) (nx (Bt (a 1) fr n) p))) (kd (Bt (a 1) fr n) (nx (Bt (a 1) fr n) p)) (nI (nx (Bt (a 1) fr n) p)) w80 op 0 fl) _
            refine P0.b GX11_atom2 2 (ob := []) (cf' := (162, [some (.ref 0), some (.int (vNm g (sg (Bt (a 1) fr n) p)))], [.int (vNm g (sg (Bt (a 1) fr n) p))], hT g a (nI fr) (nI n) (nI (en (Bt (a 1) fr n) (nx (Bt (a 1) fr n) p))) (kd (Bt (a 1) fr n) (nx (Bt (a 1) fr n) p)) (nI (nx (Bt (a 1) fr n) p)) w80 op 0 fl)) rfl trivial ?_
            exact P0.ri (by decide +kernel) rfl rfl (QP.yes (pone_val hN79) hw80 hp80)
          · show P0 _ _ _ _ (142, [some (.ref 0), some (.int 0)], [.int 0], hT g a (nI fr) (nI n) (nI (en (Bt (a 1) fr n) p)) (kd (Bt (a 1) fr n) p) (nI p) w op 1 (nI p)) _
            refine P0.b GX11_atom2 5 (ob := []) (cf' := (162, [some (.ref 0), some (.int 0)], [.int 0], hT g a (nI fr) (nI n) (nI (en (Bt (a 1) fr n) p)) (kd (Bt (a 1) fr n) p) (nI p) w op 1 (nI p))) rfl trivial ?_
            exact P0.ri (by decide +kernel) rfl rfl (QP.no (pone_bad hN79 h1 h2) 0 (nI (en (Bt (a 1) fr n) p)) (kd (Bt (a 1) fr n) p) (nI p) w op)
        · refine P0.b GX11_atom2 1 (ob := []) (cf' := (158, [some (.ref 0), some (.int 0)], [.ref 0], hT g a (nI fr) (nI n) (nI (en (Bt (a 1) fr n) p)) (kd (Bt (a 1) fr n) p) (nI p) w op 0 fl)) rfl trivial ?_
          refine P0.cd (d0 := 0) (as := [.ref 0]) (rest := []) (r1 := none) (h1 := hT g a (nI fr) (nI n) (nI (en (Bt (a 1) fr n) p)) (kd (Bt (a 1) fr n) p) (nI p) w op 1 (nI p)) (st' := []) GX11_fail kX11_atom2_158 rfl ⟨_, _, rfl, rfl, .inl ⟨_, _, _, _, rfl, rfl⟩⟩ (Nat.le_of_ble_eq_true rfl) (Nat.le_of_ble_eq_true rfl) (e_fail_ok) (Nat.le_of_ble_eq_true rfl) rfl (Nat.le_of_ble_eq_true rfl) rfl ?_
          refine P0.b GX11_atom2 1 (ob := []) (cf' := (162, [some (.ref 0), some (.int 0)], [.int 0], hT g a (nI fr) (nI n) (nI (en (Bt (a 1) fr n) p)) (kd (Bt (a 1) fr n) p) (nI p) w op 1 (nI p))) rfl trivial ?_
          exact P0.ri (by decide +kernel) rfl rfl (QP.no (pone_bad (kdN h3 h4) h1 h2) 0 (nI (en (Bt (a 1) fr n) p)) (kd (Bt (a 1) fr n) p) (nI p) w op)
    · refine P0.b GX11_atom2 1 (ob := []) (cf' := (47, [some (.ref 0), some (.int 0)], [.ref 0], hT g a (nI fr) (nI n) (nI (en (Bt (a 1) fr n) p)) (kd (Bt (a 1) fr n) p) (nI p) w op 0 fl)) rfl trivial ?_
      refine P0.cs (as := [.ref 0]) (rest := []) GX11_opens kX11_atom2_47 rfl ⟨_, _, rfl, rfl, .inl ⟨_, _, _, _, rfl, rfl⟩⟩ (Nat.le_of_ble_eq_true rfl) (Nat.le_of_ble_eq_true rfl) (P0.mono (e_opens_yes hT0 hp (op := op) (by rw [hop]; decide)) (Nat.le_of_ble_eq_true rfl) (Nat.zero_le _) (Nat.zero_le _) (fun _ _ q => q)) (Nat.le_of_ble_eq_true rfl) (fun _ _ q => by obtain ⟨_, _, rfl, _⟩ := q; exact hT_len.trans hT_len.symm) ?_
      rintro _ _ ⟨w81, rfl, rfl, hw81⟩
      have hp81 := nx_le (f := a 1) (fr := fr) hp
      show P0 _ _ _ _ (50, [some (.ref 0), some (.int 0)], [.int 1], hT g a (nI fr) (nI n) (nI (en (Bt (a 1) fr n) (nx (Bt (a 1) fr n) p))) (kd (Bt (a 1) fr n) (nx (Bt (a 1) fr n) p)) (nI (nx (Bt (a 1) fr n) p)) w81 (op + 1) 0 fl) _
      refine P0.b GX11_atom2 2 (ob := []) (cf' := (54, [some (.ref 0), some (.int 0)], [.ref 0], hT g a (nI fr) (nI n) (nI (en (Bt (a 1) fr n) (nx (Bt (a 1) fr n) p))) (kd (Bt (a 1) fr n) (nx (Bt (a 1) fr n) p)) (nI (nx (Bt (a 1) fr n) p)) w81 (op + 1) 0 fl)) rfl trivial ?_
      refine P0.cs (as := [.ref 0]) (rest := []) GX11_either3 kX11_atom2_54 rfl ⟨_, _, rfl, rfl, .inl ⟨_, _, _, _, rfl, rfl⟩⟩ (Nat.le_of_ble_eq_true rfl) (Nat.le_of_ble_eq_true rfl) (P0.mono (e_X11_either3 hT0 hw81 hp81 (op := op + 1) (by rw [hop]; decide)) (Nat.le_of_ble_eq_true rfl) (Nat.zero_le _) (Nat.zero_le _) (fun _ _ q => q)) (Nat.le_of_ble_eq_true rfl) (fun _ _ q => q.len) ?_
      rintro r1082 h1082 hq82
      have hq82 : QP g a fr n (op + 1) (lvl (sg (Bt (a 1) fr n)) (nx (Bt (a 1) fr n)) (vA g) 2 0 (nx (Bt (a 1) fr n) p)) r1082 h1082 := hq82
      rcases hR82 : lvl (sg (Bt (a 1) fr n)) (nx (Bt (a 1) fr n)) (vA g) 2 0 (nx (Bt (a 1) fr n) p) with q82 | ⟨x82, p82⟩
      · rw [hR82] at hq82
        obtain ⟨v82, e82, tk82, pp82, w82, op82, rfl, rfl⟩ := hq82
        show P0 _ _ _ _ (57, [some (.ref 0), some (.int 0)], [.int v82], hT g a (nI fr) (nI n) e82 tk82 pp82 w82 op82 1 (nI q82)) _
        refine P0.b GX11_atom2 3 (ob := []) (cf' := (61, [some (.ref 0), some (.int v82)], [.int 41, .ref 0], hT g a (nI fr) (nI n) e82 tk82 pp82 w82 op82 1 (nI q82))) rfl trivial ?_
        refine P0.cd (d0 := 0) (as := [.ref 0, .int 41]) (rest := []) (r1 := some (.int 0)) (h1 := hT g a (nI fr) (nI n) e82 tk82 pp82 w82 op82 1 (nI q82)) (st' := [.int 0]) GX11_isSign kX11_atom2_61 rfl ⟨_, _, rfl, rfl, .inl ⟨_, _, _, _, rfl, rfl⟩⟩ (Nat.le_of_ble_eq_true rfl) (Nat.le_of_ble_eq_true rfl) (e_isSign_bad (c := 41)) (Nat.le_of_ble_eq_true rfl) rfl (Nat.le_of_ble_eq_true rfl) rfl ?_
        refine P0.b GX11_atom2 2 (ob := []) (cf' := (68, [some (.ref 0), some (.int v82)], [.ref 0], hT g a (nI fr) (nI n) e82 tk82 pp82 w82 op82 1 (nI q82))) rfl trivial ?_
        refine P0.cd (d0 := 0) (as := [.ref 0]) (rest := []) (r1 := none) (h1 := hT g a (nI fr) (nI n) e82 tk82 pp82 w82 op82 1 (nI q82)) (st' := []) GX11_fail kX11_atom2_68 rfl ⟨_, _, rfl, rfl, .inl ⟨_, _, _, _, rfl, rfl⟩⟩ (Nat.le_of_ble_eq_true rfl) (Nat.le_of_ble_eq_true rfl) (e_fail_bad) (Nat.le_of_ble_eq_true rfl) rfl (Nat.le_of_ble_eq_true rfl) rfl ?_
        refine P0.b GX11_atom2 10 (ob := []) (cf' := (162, [some (.ref 0), some (.int v82)], [.int v82], hT g a (nI fr) (nI n) e82 tk82 pp82 w82 (op82 - 1) 1 (nI q82))) rfl trivial ?_
        exact P0.ri (by decide +kernel) rfl rfl (QP.no (pone_par_no h2 hR82) v82 e82 tk82 pp82 w82 (op82 - 1))
      · rw [hR82] at hq82
        obtain ⟨w82, fl82, rfl, rfl, hw82, hp82⟩ := hq82
        show P0 _ _ _ _ (57, [some (.ref 0), some (.int 0)], [.int x82], hT g a (nI fr) (nI n) (nI (en (Bt (a 1) fr n) p82)) (kd (Bt (a 1) fr n) p82) (nI p82) w82 (op + 1) 0 fl82) _
        refine P0.b GX11_atom2 3 (ob := []) (cf' := (61, [some (.ref 0), some (.int x82)], [.int 41, .ref 0], hT g a (nI fr) (nI n) (nI (en (Bt (a 1) fr n) p82)) (kd (Bt (a 1) fr n) p82) (nI p82) w82 (op + 1) 0 fl82)) rfl trivial ?_
        refine P0.cd (d0 := 0) (as := [.ref 0, .int 41]) (rest := []) (r1 := some (.int (if sg (Bt (a 1) fr n) p82 = (-14) then 1 else 0))) (h1 := hT g a (nI fr) (nI n) (nI (en (Bt (a 1) fr n) p82)) (kd (Bt (a 1) fr n) p82) (nI p82) w82 (op + 1) 0 fl82) (st' := [.int (if sg (Bt (a 1) fr n) p82 = (-14) then 1 else 0)]) GX11_isSign kX11_atom2_61 rfl ⟨_, _, rfl, rfl, .inl ⟨_, _, _, _, rfl, rfl⟩⟩ (Nat.le_of_ble_eq_true rfl) (Nat.le_of_ble_eq_true rfl) (e_isSign_ok hw82 (c := 41) (code := (-14)) (by decide +kernel)) (Nat.le_of_ble_eq_true rfl) rfl (Nat.le_of_ble_eq_true rfl) rfl ?_
        refine P0.b GX11_atom2 1 (ob := []) (cf' := (if (if sg (Bt (a 1) fr n) p82 = (-14) then 1 else 0) = 0 then 67 else 71, [some (.ref 0), some (.int x82)], [], hT g a (nI fr) (nI n) (nI (en (Bt (a 1) fr n) p82)) (kd (Bt (a 1) fr n) p82) (nI p82) w82 (op + 1) 0 fl82)) rfl trivial ?_
        refine P0.ifB (fun h5 => ?_) (fun h5 => ?_)
        · refine P0.b GX11_atom2 1 (ob := []) (cf' := (68, [some (.ref 0), some (.int x82)], [.ref 0], hT g a (nI fr) (nI n) (nI (en (Bt (a 1) fr n) p82)) (kd (Bt (a 1) fr n) p82) (nI p82) w82 (op + 1) 0 fl82)) rfl trivial ?_
          refine P0.cd (d0 := 0) (as := [.ref 0]) (rest := []) (r1 := none) (h1 := hT g a (nI fr) (nI n) (nI (en (Bt (a 1) fr n) p82)) (kd (Bt (a 1) fr n) p82) (nI p82) w82 (op + 1) 1 (nI p82)) (st' := []) GX11_fail kX11_atom2_68 rfl ⟨_, _, rfl, rfl, .inl ⟨_, _, _, _, rfl, rfl⟩⟩ (Nat.le_of_ble_eq_true rfl) (Nat.le_of_ble_eq_true rfl) (e_fail_ok) (Nat.le_of_ble_eq_true rfl) rfl (Nat.le_of_ble_eq_true rfl) rfl ?_
          refine P0.b GX11_atom2 10 (ob := []) (cf' := (162, [some (.ref 0), some (.int x82)], [.int x82], hT g a (nI fr) (nI n) (nI (en (Bt (a 1) fr n) p82)) (kd (Bt (a 1) fr n) p82) (nI p82) w82 ((op + 1) - 1) 1 (nI p82))) rfl trivial ?_
          rw [show (op + 1) - 1 = op from by rw [hop]; decide]
          exact P0.ri (by decide +kernel) rfl rfl (QP.no (pone_par_bad h2 hR82 h5) x82 (nI (en (Bt (a 1) fr n) p82)) (kd (Bt (a 1) fr n) p82) (nI p82) w82 op)
        · refine P0.b GX11_atom2 10 (ob := []) (cf' := (89, [some (.ref 0), some (.int x82)], [.ref 0], hT g a (nI fr) (nI n) (nI (en (Bt (a 1) fr n) p82)) (kd (Bt (a 1) fr n) p82) (nI p82) w82 ((op + 1) - 1) 0 fl82)) rfl trivial ?_
          rw [show (op + 1) - 1 = op from by rw [hop]; decide]
          refine P0.cs (as := [.ref 0]) (rest := []) GX11_nextToken kX11_atom2_89 rfl ⟨_, _, rfl, rfl, .inl ⟨_, _, _, _, rfl, rfl⟩⟩ (Nat.le_of_ble_eq_true rfl) (Nat.le_of_ble_eq_true rfl) (P0.mono (e_X11_nextToken hT0 (en (Bt (a 1) fr n) p82) (en_le hp82) _ _ _ _ _ _) (Nat.le_of_ble_eq_true rfl) (Nat.zero_le _) (Nat.zero_le _) (fun _ _ q => q)) (Nat.le_of_ble_eq_true rfl) (fun _ _ q => q.len) ?_
          rintro _ _ ⟨w83, rfl, rfl, hw83⟩
          have hp83 := nx_le (f := a 1) (fr := fr) hp82
          show P0 _ _ _ _ (92, [some (.ref 0), some (.int x82)], [], hT g a (nI fr) (nI n) (nI (en (Bt (a 1) fr n) (nx (Bt (a 1) fr n) p82))) (kd (Bt (a 1) fr n) (nx (Bt (a 1) fr n) p82)) (nI (nx (Bt (a 1) fr n) p82)) w83 op 0 fl82) _
          refine P0.b GX11_atom2 2 (ob := []) (cf' := (162, [some (.ref 0), some (.int x82)], [.int x82], hT g a (nI fr) (nI n) (nI (en (Bt (a 1) fr n) (nx (Bt (a 1) fr n) p82))) (kd (Bt (a 1) fr n) (nx (Bt (a 1) fr n) p82)) (nI (nx (Bt (a 1) fr n) p82)) w83 op 0 fl82)) rfl trivial ?_
          exact P0.ri (by decide +kernel) rfl rfl (QP.yes (pone_par_yes h2 hR82 h5) hw83 hp83)
  · refine P0.b GX11_atom2 1 (ob := []) (cf' := (12, [some (.ref 0), some (.int 0)], [.ref 0], hT g a (nI fr) (nI n) (nI (en (Bt (a 1) fr n) p)) (kd (Bt (a 1) fr n) p) (nI p) w op 0 fl)) rfl trivial ?_
    refine P0.cs (as := [.ref 0]) (rest := []) GX11_opens kX11_atom2_12 rfl ⟨_, _, rfl, rfl, .inl ⟨_, _, _, _, rfl, rfl⟩⟩ (Nat.le_of_ble_eq_true rfl) (Nat.le_of_ble_eq_true rfl) (P0.mono (e_opens_yes hT0 hp (op := op) (by rw [hop]; decide)) (Nat.le_of_ble_eq_true rfl) (Nat.zero_le _) (Nat.zero_le _) (fun _ _ q => q)) (Nat.le_of_ble_eq_true rfl) (fun _ _ q => by obtain ⟨_, _, rfl, _⟩ := q; exact hT_len.trans hT_len.symm) ?_
    rintro _ _ ⟨w84, rfl, rfl, hw84⟩
    have hp84 := nx_le (f := a 1) (fr := fr) hp
    show P0 _ _ _ _ (15, [some (.ref 0), some (.int 0)], [.int 1], hT g a (nI fr) (nI n) (nI (en (Bt (a 1) fr n) (nx (Bt (a 1) fr n) p))) (kd (Bt (a 1) fr n) (nx (Bt (a 1) fr n) p)) (nI (nx (Bt (a 1) fr n) p)) w84 (op + 1) 0 fl) _
    refine P0.b GX11_atom2 2 (ob := []) (cf' := (19, [some (.ref 0), some (.int 0)], [.ref 0], hT g a (nI fr) (nI n) (nI (en (Bt (a 1) fr n) (nx (Bt (a 1) fr n) p))) (kd (Bt (a 1) fr n) (nx (Bt (a 1) fr n) p)) (nI (nx (Bt (a 1) fr n) p)) w84 (op + 1) 0 fl)) rfl trivial ?_
    refine P0.cs (as := [.ref 0]) (rest := []) GX11_atom3 kX11_atom2_19 rfl ⟨_, _, rfl, rfl, .inl ⟨_, _, _, _, rfl, rfl⟩⟩ (Nat.le_of_ble_eq_true rfl) (Nat.le_of_ble_eq_true rfl) (P0.mono (e_X11_atom3 hT0 hw84 hp84 (op := op + 1) (by rw [hop]; decide)) (Nat.le_of_ble_eq_true rfl) (Nat.zero_le _) (Nat.zero_le _) (fun _ _ q => q)) (Nat.le_of_ble_eq_true rfl) (fun _ _ q => q.len) ?_
    rintro r1085 h1085 hq85
    have hq85 : QP g a fr n (op + 1) (lvl (sg (Bt (a 1) fr n)) (nx (Bt (a 1) fr n)) (vA g) 2 2 (nx (Bt (a 1) fr n) p)) r1085 h1085 := hq85
    rcases hR85 : lvl (sg (Bt (a 1) fr n)) (nx (Bt (a 1) fr n)) (vA g) 2 2 (nx (Bt (a 1) fr n) p) with q85 | ⟨x85, p85⟩
    · rw [hR85] at hq85
      obtain ⟨v85, e85, tk85, pp85, w85, op85, rfl, rfl⟩ := hq85
      show P0 _ _ _ _ (22, [some (.ref 0), some (.int 0)], [.int v85], hT g a (nI fr) (nI n) e85 tk85 pp85 w85 op85 1 (nI q85)) _
      refine P0.b GX11_atom2 10 (ob := []) (cf' := (162, [some (.ref 0), some (.int (-v85))], [.int (-v85)], hT g a (nI fr) (nI n) e85 tk85 pp85 w85 (op85 - 1) 1 (nI q85))) rfl trivial ?_
      exact P0.ri (by decide +kernel) rfl rfl (QP.no (pone_neg_no h1 hR85) (-v85) e85 tk85 pp85 w85 (op85 - 1))
    · rw [hR85] at hq85
      obtain ⟨w85, fl85, rfl, rfl, hw85, hp85⟩ := hq85
      show P0 _ _ _ _ (22, [some (.ref 0), some (.int 0)], [.int x85], hT g a (nI fr) (nI n) (nI (en (Bt (a 1) fr n) p85)) (kd (Bt (a 1) fr n) p85) (nI p85) w85 (op + 1) 0 fl85) _
      refine P0.b GX11_atom2 10 (ob := []) (cf' := (162, [some (.ref 0), some (.int (-x85))], [.int (-x85)], hT g a (nI fr) (nI n) (nI (en (Bt (a 1) fr n) p85)) (kd (Bt (a 1) fr n) p85) (nI p85) w85 ((op + 1) - 1) 0 fl85)) rfl trivial ?_
      rw [show (op + 1) - 1 = op from by rw [hop]; decide]
      exact P0.ri (by decide +kernel) rfl rfl (QP.yes (pone_neg_yes h1 hR85 rfl) hw85 hp85)
set_option maxHeartbeats 2000000 in
theorem lp_X11_term2 {g : Nat → Int32} {a : Nat → Nat → Int32} {fr n : Nat} (hT0 : TxOK a fr n) {op : Int32} (hop : op = 2) : ∀ (f : Nat) (x : Int32) (p : Nat) (w : Int64) (fl : Int32), wOK (Bt (a 1) fr n) p w → p ≤ n → n ≤ p + f → P0 23 0 0 mX11_term2 (5, [some (.ref 0), some (.int x)], [], hT g a (nI fr) (nI n) (nI (en (Bt (a 1) fr n) p)) (kd (Bt (a 1) fr n) p) (nI p) w op 0 fl) (QP g a fr n op (pch (sg (Bt (a 1) fr n)) (nx (Bt (a 1) fr n)) (vA g).2.2 jTerm (pone (sg (Bt (a 1) fr n)) (nx (Bt (a 1) fr n)) (vA g) true (lvl (sg (Bt (a 1) fr n)) (nx (Bt (a 1) fr n)) (vA g) 2 0) (lvl (sg (Bt (a 1) fr n)) (nx (Bt (a 1) fr n)) (vA g) 2 2)) f x p))
  | 0, x, p, w, fl, hw, hp, hpf => by
    refine P0.b GX11_term2 2 (ob := []) (cf' := (8, [some (.ref 0), some (.int x)], [.int 42, .ref 0], hT g a (nI fr) (nI n) (nI (en (Bt (a 1) fr n) p)) (kd (Bt (a 1) fr n) p) (nI p) w op 0 fl)) rfl trivial ?_
    refine P0.cd (d0 := 0) (as := [.ref 0, .int 42]) (rest := []) (r1 := some (.int (if sg (Bt (a 1) fr n) p = (-18) then 1 else 0))) (h1 := hT g a (nI fr) (nI n) (nI (en (Bt (a 1) fr n) p)) (kd (Bt (a 1) fr n) p) (nI p) w op 0 fl) (st' := [.int (if sg (Bt (a 1) fr n) p = (-18) then 1 else 0)]) GX11_isSign kX11_term2_8 rfl ⟨_, _, rfl, rfl, .inl ⟨_, _, _, _, rfl, rfl⟩⟩ (Nat.le_of_ble_eq_true rfl) (Nat.le_of_ble_eq_true rfl) (e_isSign_ok hw (c := 42) (code := (-18)) (by decide +kernel)) (Nat.le_of_ble_eq_true rfl) rfl (Nat.le_of_ble_eq_true rfl) rfl ?_
    refine P0.b GX11_term2 1 (ob := []) (cf' := (if (if sg (Bt (a 1) fr n) p = (-18) then 1 else 0) = 0 then 28 else 14, [some (.ref 0), some (.int x)], [], hT g a (nI fr) (nI n) (nI (en (Bt (a 1) fr n) p)) (kd (Bt (a 1) fr n) p) (nI p) w op 0 fl)) rfl trivial ?_
    rw [if_neg (show ¬ (sg (Bt (a 1) fr n) p = (-18)) from by rw [sg_end hpf]; decide), if_pos rfl]
    refine P0.b GX11_term2 1 (ob := []) (cf' := (29, [some (.ref 0), some (.int x)], [.int x], hT g a (nI fr) (nI n) (nI (en (Bt (a 1) fr n) p)) (kd (Bt (a 1) fr n) p) (nI p) w op 0 fl)) rfl trivial ?_
    exact P0.ri (by decide +kernel) rfl rfl (QP.yes rfl hw hp)
  | f + 1, x, p, w, fl, hw, hp, hpf => by
    refine P0.b GX11_term2 2 (ob := []) (cf' := (8, [some (.ref 0), some (.int x)], [.int 42, .ref 0], hT g a (nI fr) (nI n) (nI (en (Bt (a 1) fr n) p)) (kd (Bt (a 1) fr n) p) (nI p) w op 0 fl)) rfl trivial ?_
    refine P0.cd (d0 := 0) (as := [.ref 0, .int 42]) (rest := []) (r1 := some (.int (if sg (Bt (a 1) fr n) p = (-18) then 1 else 0))) (h1 := hT g a (nI fr) (nI n) (nI (en (Bt (a 1) fr n) p)) (kd (Bt (a 1) fr n) p) (nI p) w op 0 fl) (st' := [.int (if sg (Bt (a 1) fr n) p = (-18) then 1 else 0)]) GX11_isSign kX11_term2_8 rfl ⟨_, _, rfl, rfl, .inl ⟨_, _, _, _, rfl, rfl⟩⟩ (Nat.le_of_ble_eq_true rfl) (Nat.le_of_ble_eq_true rfl) (e_isSign_ok hw (c := 42) (code := (-18)) (by decide +kernel)) (Nat.le_of_ble_eq_true rfl) rfl (Nat.le_of_ble_eq_true rfl) rfl ?_
    refine P0.b GX11_term2 1 (ob := []) (cf' := (if (if sg (Bt (a 1) fr n) p = (-18) then 1 else 0) = 0 then 28 else 14, [some (.ref 0), some (.int x)], [], hT g a (nI fr) (nI n) (nI (en (Bt (a 1) fr n) p)) (kd (Bt (a 1) fr n) p) (nI p) w op 0 fl)) rfl trivial ?_
    refine P0.ifB (fun h1 => ?_) (fun h1 => ?_)
    · refine P0.b GX11_term2 1 (ob := []) (cf' := (29, [some (.ref 0), some (.int x)], [.int x], hT g a (nI fr) (nI n) (nI (en (Bt (a 1) fr n) p)) (kd (Bt (a 1) fr n) p) (nI p) w op 0 fl)) rfl trivial ?_
      exact P0.ri (by decide +kernel) rfl rfl (QP.yes (pch_stop (show jTerm (sg (Bt (a 1) fr n) p) = false from by simp only [jTerm]; exact decide_eq_false h1)) hw hp)
    · refine P0.b GX11_term2 1 (ob := []) (cf' := (15, [some (.ref 0), some (.int x)], [.ref 0], hT g a (nI fr) (nI n) (nI (en (Bt (a 1) fr n) p)) (kd (Bt (a 1) fr n) p) (nI p) w op 0 fl)) rfl trivial ?_
      refine P0.cs (as := [.ref 0]) (rest := []) GX11_nextToken kX11_term2_15 rfl ⟨_, _, rfl, rfl, .inl ⟨_, _, _, _, rfl, rfl⟩⟩ (Nat.le_of_ble_eq_true rfl) (Nat.le_of_ble_eq_true rfl) (P0.mono (e_X11_nextToken hT0 (en (Bt (a 1) fr n) p) (en_le hp) _ _ _ _ _ _) (Nat.le_of_ble_eq_true rfl) (Nat.zero_le _) (Nat.zero_le _) (fun _ _ q => q)) (Nat.le_of_ble_eq_true rfl) (fun _ _ q => q.len) ?_
      rintro _ _ ⟨w86, rfl, rfl, hw86⟩
      have hp86 := nx_le (f := a 1) (fr := fr) hp
      show P0 _ _ _ _ (18, [some (.ref 0), some (.int x)], [], hT g a (nI fr) (nI n) (nI (en (Bt (a 1) fr n) (nx (Bt (a 1) fr n) p))) (kd (Bt (a 1) fr n) (nx (Bt (a 1) fr n) p)) (nI (nx (Bt (a 1) fr n) p)) w86 op 0 fl) _
      refine P0.b GX11_term2 2 (ob := []) (cf' := (20, [some (.ref 0), some (.int x)], [.ref 0, .int x], hT g a (nI fr) (nI n) (nI (en (Bt (a 1) fr n) (nx (Bt (a 1) fr n) p))) (kd (Bt (a 1) fr n) (nx (Bt (a 1) fr n) p)) (nI (nx (Bt (a 1) fr n) p)) w86 op 0 fl)) rfl trivial ?_
      refine P0.cs (as := [.ref 0]) (rest := [.int x]) GX11_atom2 kX11_term2_20 rfl ⟨_, _, rfl, rfl, .inl ⟨_, _, _, _, rfl, rfl⟩⟩ (Nat.le_of_ble_eq_true rfl) (Nat.le_of_ble_eq_true rfl) (P0.mono (e_X11_atom2 hT0 hw86 hp86 (op := op) hop) (Nat.le_of_ble_eq_true rfl) (Nat.zero_le _) (Nat.zero_le _) (fun _ _ q => q)) (Nat.le_of_ble_eq_true rfl) (fun _ _ q => q.len) ?_
      rintro r1087 h1087 hq87
      have hq87 : QP g a fr n op (pone (sg (Bt (a 1) fr n)) (nx (Bt (a 1) fr n)) (vA g) true (lvl (sg (Bt (a 1) fr n)) (nx (Bt (a 1) fr n)) (vA g) 2 0) (lvl (sg (Bt (a 1) fr n)) (nx (Bt (a 1) fr n)) (vA g) 2 2) (nx (Bt (a 1) fr n) p)) r1087 h1087 := hq87
      rcases hR87 : pone (sg (Bt (a 1) fr n)) (nx (Bt (a 1) fr n)) (vA g) true (lvl (sg (Bt (a 1) fr n)) (nx (Bt (a 1) fr n)) (vA g) 2 0) (lvl (sg (Bt (a 1) fr n)) (nx (Bt (a 1) fr n)) (vA g) 2 2) (nx (Bt (a 1) fr n) p) with q87 | ⟨x87, p87⟩
      · rw [hR87] at hq87
        obtain ⟨v87, e87, tk87, pp87, w87, op87, rfl, rfl⟩ := hq87
        show P0 _ _ _ _ (23, [some (.ref 0), some (.int x)], [.int v87, .int x], hT g a (nI fr) (nI n) e87 tk87 pp87 w87 op87 1 (nI q87)) _
        refine P0.b GX11_term2 3 (ob := []) (cf' := (5, [some (.ref 0), some (.int (x * v87))], [], hT g a (nI fr) (nI n) e87 tk87 pp87 w87 op87 1 (nI q87))) rfl trivial ?_
        refine P0.b GX11_term2 2 (ob := []) (cf' := (8, [some (.ref 0), some (.int (x * v87))], [.int 42, .ref 0], hT g a (nI fr) (nI n) e87 tk87 pp87 w87 op87 1 (nI q87))) rfl trivial ?_
        refine P0.cd (d0 := 0) (as := [.ref 0, .int 42]) (rest := []) (r1 := some (.int 0)) (h1 := hT g a (nI fr) (nI n) e87 tk87 pp87 w87 op87 1 (nI q87)) (st' := [.int 0]) GX11_isSign kX11_term2_8 rfl ⟨_, _, rfl, rfl, .inl ⟨_, _, _, _, rfl, rfl⟩⟩ (Nat.le_of_ble_eq_true rfl) (Nat.le_of_ble_eq_true rfl) (e_isSign_bad (c := 42)) (Nat.le_of_ble_eq_true rfl) rfl (Nat.le_of_ble_eq_true rfl) rfl ?_
        refine P0.b GX11_term2 2 (ob := []) (cf' := (29, [some (.ref 0), some (.int (x * v87))], [.int (x * v87)], hT g a (nI fr) (nI n) e87 tk87 pp87 w87 op87 1 (nI q87))) rfl trivial ?_
        exact P0.ri (by decide +kernel) rfl rfl (QP.no (pch_fail (show jTerm (sg (Bt (a 1) fr n) p) = true from by rw [h1]; decide) hR87) (x * v87) e87 tk87 pp87 w87 op87)
      · rw [hR87] at hq87
        obtain ⟨w87, fl87, rfl, rfl, hw87, hp87⟩ := hq87
        show P0 _ _ _ _ (23, [some (.ref 0), some (.int x)], [.int x87, .int x], hT g a (nI fr) (nI n) (nI (en (Bt (a 1) fr n) p87)) (kd (Bt (a 1) fr n) p87) (nI p87) w87 op 0 fl87) _
        refine P0.b GX11_term2 3 (ob := []) (cf' := (5, [some (.ref 0), some (.int (x * x87))], [], hT g a (nI fr) (nI n) (nI (en (Bt (a 1) fr n) p87)) (kd (Bt (a 1) fr n) p87) (nI p87) w87 op 0 fl87)) rfl trivial ?_
        rw [pch_step (show jTerm (sg (Bt (a 1) fr n) p) = true from by rw [h1]; decide) hR87, show (vA g).2.2 (sg (Bt (a 1) fr n) p) x x87 = (x * x87) from by rw [h1]; rfl]
        exact lp_X11_term2 hT0 hop f _ _ _ _ hw87 hp87 (by have h1 := nx_lt (B := (Bt (a 1) fr n)) (p := p) (by rw [h1]; decide) (by rw [h1]; decide); have h2 := (prog_one nx_lt (prog_lvl nx_lt (vA g) 2 0) (prog_lvl nx_lt (vA g) 2 2)) _ _ _ hR87; omega)
set_option maxHeartbeats 2000000 in
theorem e_X11_term2 {g : Nat → Int32} {a : Nat → Nat → Int32} {fr n : Nat} (hT0 : TxOK a fr n) {p : Nat} {w : Int64} {fl : Int32} (hw : wOK (Bt (a 1) fr n) p w) (hp : p ≤ n) {op : Int32} (hop : op = 2) : P0 23 0 0 mX11_term2 (0, ent 2 [.ref 0], [], hT g a (nI fr) (nI n) (nI (en (Bt (a 1) fr n) p)) (kd (Bt (a 1) fr n) p) (nI p) w op 0 fl) (QP g a fr n op (pterm (sg (Bt (a 1) fr n)) (nx (Bt (a 1) fr n)) (vA g) true (lvl (sg (Bt (a 1) fr n)) (nx (Bt (a 1) fr n)) (vA g) 2 0) (lvl (sg (Bt (a 1) fr n)) (nx (Bt (a 1) fr n)) (vA g) 2 2) p)) := by
  show P0 _ _ _ _ _ (QP g a fr n op (pc0 (sg (Bt (a 1) fr n)) (nx (Bt (a 1) fr n)) (vA g).2.2 jTerm (pone (sg (Bt (a 1) fr n)) (nx (Bt (a 1) fr n)) (vA g) true (lvl (sg (Bt (a 1) fr n)) (nx (Bt (a 1) fr n)) (vA g) 2 0) (lvl (sg (Bt (a 1) fr n)) (nx (Bt (a 1) fr n)) (vA g) 2 2)) p))
  refine P0.b GX11_term2 1 (ob := []) (cf' := (1, [some (.ref 0), none], [.ref 0], hT g a (nI fr) (nI n) (nI (en (Bt (a 1) fr n) p)) (kd (Bt (a 1) fr n) p) (nI p) w op 0 fl)) rfl trivial ?_
  refine P0.cs (as := [.ref 0]) (rest := []) GX11_atom2 kX11_term2_1 rfl ⟨_, _, rfl, rfl, .inl ⟨_, _, _, _, rfl, rfl⟩⟩ (Nat.le_of_ble_eq_true rfl) (Nat.le_of_ble_eq_true rfl) (P0.mono (e_X11_atom2 hT0 hw hp (op := op) hop) (Nat.le_of_ble_eq_true rfl) (Nat.zero_le _) (Nat.zero_le _) (fun _ _ q => q)) (Nat.le_of_ble_eq_true rfl) (fun _ _ q => q.len) ?_
  rintro r1088 h1088 hq88
  have hq88 : QP g a fr n op (pone (sg (Bt (a 1) fr n)) (nx (Bt (a 1) fr n)) (vA g) true (lvl (sg (Bt (a 1) fr n)) (nx (Bt (a 1) fr n)) (vA g) 2 0) (lvl (sg (Bt (a 1) fr n)) (nx (Bt (a 1) fr n)) (vA g) 2 2) p) r1088 h1088 := hq88
  rcases hR88 : pone (sg (Bt (a 1) fr n)) (nx (Bt (a 1) fr n)) (vA g) true (lvl (sg (Bt (a 1) fr n)) (nx (Bt (a 1) fr n)) (vA g) 2 0) (lvl (sg (Bt (a 1) fr n)) (nx (Bt (a 1) fr n)) (vA g) 2 2) p with q88 | ⟨x88, p88⟩
  · rw [hR88] at hq88
    obtain ⟨v88, e88, tk88, pp88, w88, op88, rfl, rfl⟩ := hq88
    show P0 _ _ _ _ (4, [some (.ref 0), none], [.int v88], hT g a (nI fr) (nI n) e88 tk88 pp88 w88 op88 1 (nI q88)) _
    refine P0.b GX11_term2 1 (ob := []) (cf' := (5, [some (.ref 0), some (.int v88)], [], hT g a (nI fr) (nI n) e88 tk88 pp88 w88 op88 1 (nI q88))) rfl trivial ?_
    refine P0.b GX11_term2 2 (ob := []) (cf' := (8, [some (.ref 0), some (.int v88)], [.int 42, .ref 0], hT g a (nI fr) (nI n) e88 tk88 pp88 w88 op88 1 (nI q88))) rfl trivial ?_
    refine P0.cd (d0 := 0) (as := [.ref 0, .int 42]) (rest := []) (r1 := some (.int 0)) (h1 := hT g a (nI fr) (nI n) e88 tk88 pp88 w88 op88 1 (nI q88)) (st' := [.int 0]) GX11_isSign kX11_term2_8 rfl ⟨_, _, rfl, rfl, .inl ⟨_, _, _, _, rfl, rfl⟩⟩ (Nat.le_of_ble_eq_true rfl) (Nat.le_of_ble_eq_true rfl) (e_isSign_bad (c := 42)) (Nat.le_of_ble_eq_true rfl) rfl (Nat.le_of_ble_eq_true rfl) rfl ?_
    refine P0.b GX11_term2 2 (ob := []) (cf' := (29, [some (.ref 0), some (.int v88)], [.int v88], hT g a (nI fr) (nI n) e88 tk88 pp88 w88 op88 1 (nI q88))) rfl trivial ?_
    exact P0.ri (by decide +kernel) rfl rfl (QP.no (pc0_no hR88) v88 e88 tk88 pp88 w88 op88)
  · rw [hR88] at hq88
    obtain ⟨w88, fl88, rfl, rfl, hw88, hp88⟩ := hq88
    show P0 _ _ _ _ (4, [some (.ref 0), none], [.int x88], hT g a (nI fr) (nI n) (nI (en (Bt (a 1) fr n) p88)) (kd (Bt (a 1) fr n) p88) (nI p88) w88 op 0 fl88) _
    refine P0.b GX11_term2 1 (ob := []) (cf' := (5, [some (.ref 0), some (.int x88)], [], hT g a (nI fr) (nI n) (nI (en (Bt (a 1) fr n) p88)) (kd (Bt (a 1) fr n) p88) (nI p88) w88 op 0 fl88)) rfl trivial ?_
    rw [pc0_yes hR88]
    exact lp_X11_term2 hT0 hop 200 _ _ _ _ hw88 hp88 (by have := hT0.2.1; omega)
set_option maxHeartbeats 2000000 in
theorem lp_X11_added2 {g : Nat → Int32} {a : Nat → Nat → Int32} {fr n : Nat} (hT0 : TxOK a fr n) {op : Int32} (hop : op = 2) : ∀ (f : Nat) (x : Int32) (p : Nat) (w : Int64) (fl : Int32), wOK (Bt (a 1) fr n) p w → p ≤ n → n ≤ p + f → P0 24 0 0 mX11_added2 (5, [some (.ref 0), some (.int x), none, none], [], hT g a (nI fr) (nI n) (nI (en (Bt (a 1) fr n) p)) (kd (Bt (a 1) fr n) p) (nI p) w op 0 fl) (QP g a fr n op (pch (sg (Bt (a 1) fr n)) (nx (Bt (a 1) fr n)) (vA g).2.2 jSum (pterm (sg (Bt (a 1) fr n)) (nx (Bt (a 1) fr n)) (vA g) true (lvl (sg (Bt (a 1) fr n)) (nx (Bt (a 1) fr n)) (vA g) 2 0) (lvl (sg (Bt (a 1) fr n)) (nx (Bt (a 1) fr n)) (vA g) 2 2)) f x p))
  | 0, x, p, w, fl, hw, hp, hpf => by
    refine P0.b GX11_added2 2 (ob := []) (cf' := (8, [some (.ref 0), some (.int x), none, none], [.int 43, .ref 0], hT g a (nI fr) (nI n) (nI (en (Bt (a 1) fr n) p)) (kd (Bt (a 1) fr n) p) (nI p) w op 0 fl)) rfl trivial ?_
    refine P0.cd (d0 := 0) (as := [.ref 0, .int 43]) (rest := []) (r1 := some (.int (if sg (Bt (a 1) fr n) p = (-16) then 1 else 0))) (h1 := hT g a (nI fr) (nI n) (nI (en (Bt (a 1) fr n) p)) (kd (Bt (a 1) fr n) p) (nI p) w op 0 fl) (st' := [.int (if sg (Bt (a 1) fr n) p = (-16) then 1 else 0)]) GX11_isSign kX11_added2_8 rfl ⟨_, _, rfl, rfl, .inl ⟨_, _, _, _, rfl, rfl⟩⟩ (Nat.le_of_ble_eq_true rfl) (Nat.le_of_ble_eq_true rfl) (e_isSign_ok hw (c := 43) (code := (-16)) (by decide +kernel)) (Nat.le_of_ble_eq_true rfl) rfl (Nat.le_of_ble_eq_true rfl) rfl ?_
    refine P0.b GX11_added2 1 (ob := []) (cf' := (if (if sg (Bt (a 1) fr n) p = (-16) then 1 else 0) = 0 then 14 else 23, [some (.ref 0), some (.int x), none, none], [], hT g a (nI fr) (nI n) (nI (en (Bt (a 1) fr n) p)) (kd (Bt (a 1) fr n) p) (nI p) w op 0 fl)) rfl trivial ?_
    rw [if_neg (show ¬ (sg (Bt (a 1) fr n) p = (-16)) from by rw [sg_end hpf]; decide), if_pos rfl]
    refine P0.b GX11_added2 2 (ob := []) (cf' := (17, [some (.ref 0), some (.int x), none, none], [.int 45, .ref 0], hT g a (nI fr) (nI n) (nI (en (Bt (a 1) fr n) p)) (kd (Bt (a 1) fr n) p) (nI p) w op 0 fl)) rfl trivial ?_
    refine P0.cd (d0 := 0) (as := [.ref 0, .int 45]) (rest := []) (r1 := some (.int (if sg (Bt (a 1) fr n) p = (-17) then 1 else 0))) (h1 := hT g a (nI fr) (nI n) (nI (en (Bt (a 1) fr n) p)) (kd (Bt (a 1) fr n) p) (nI p) w op 0 fl) (st' := [.int (if sg (Bt (a 1) fr n) p = (-17) then 1 else 0)]) GX11_isSign kX11_added2_17 rfl ⟨_, _, rfl, rfl, .inl ⟨_, _, _, _, rfl, rfl⟩⟩ (Nat.le_of_ble_eq_true rfl) (Nat.le_of_ble_eq_true rfl) (e_isSign_ok hw (c := 45) (code := (-17)) (by decide +kernel)) (Nat.le_of_ble_eq_true rfl) rfl (Nat.le_of_ble_eq_true rfl) rfl ?_
    refine P0.b GX11_added2 1 (ob := []) (cf' := (if (if sg (Bt (a 1) fr n) p = (-17) then 1 else 0) = 0 then 66 else 23, [some (.ref 0), some (.int x), none, none], [], hT g a (nI fr) (nI n) (nI (en (Bt (a 1) fr n) p)) (kd (Bt (a 1) fr n) p) (nI p) w op 0 fl)) rfl trivial ?_
    rw [if_neg (show ¬ (sg (Bt (a 1) fr n) p = (-17)) from by rw [sg_end hpf]; decide), if_pos rfl]
    refine P0.b GX11_added2 1 (ob := []) (cf' := (67, [some (.ref 0), some (.int x), none, none], [.int x], hT g a (nI fr) (nI n) (nI (en (Bt (a 1) fr n) p)) (kd (Bt (a 1) fr n) p) (nI p) w op 0 fl)) rfl trivial ?_
    exact P0.ri (by decide +kernel) rfl rfl (QP.yes rfl hw hp)
  | f + 1, x, p, w, fl, hw, hp, hpf => by
    refine P0.b GX11_added2 2 (ob := []) (cf' := (8, [some (.ref 0), some (.int x), none, none], [.int 43, .ref 0], hT g a (nI fr) (nI n) (nI (en (Bt (a 1) fr n) p)) (kd (Bt (a 1) fr n) p) (nI p) w op 0 fl)) rfl trivial ?_
    refine P0.cd (d0 := 0) (as := [.ref 0, .int 43]) (rest := []) (r1 := some (.int (if sg (Bt (a 1) fr n) p = (-16) then 1 else 0))) (h1 := hT g a (nI fr) (nI n) (nI (en (Bt (a 1) fr n) p)) (kd (Bt (a 1) fr n) p) (nI p) w op 0 fl) (st' := [.int (if sg (Bt (a 1) fr n) p = (-16) then 1 else 0)]) GX11_isSign kX11_added2_8 rfl ⟨_, _, rfl, rfl, .inl ⟨_, _, _, _, rfl, rfl⟩⟩ (Nat.le_of_ble_eq_true rfl) (Nat.le_of_ble_eq_true rfl) (e_isSign_ok hw (c := 43) (code := (-16)) (by decide +kernel)) (Nat.le_of_ble_eq_true rfl) rfl (Nat.le_of_ble_eq_true rfl) rfl ?_
    refine P0.b GX11_added2 1 (ob := []) (cf' := (if (if sg (Bt (a 1) fr n) p = (-16) then 1 else 0) = 0 then 14 else 23, [some (.ref 0), some (.int x), none, none], [], hT g a (nI fr) (nI n) (nI (en (Bt (a 1) fr n) p)) (kd (Bt (a 1) fr n) p) (nI p) w op 0 fl)) rfl trivial ?_
    refine P0.ifB (fun h1 => ?_) (fun h1 => ?_)
    · refine P0.b GX11_added2 2 (ob := []) (cf' := (17, [some (.ref 0), some (.int x), none, none], [.int 45, .ref 0], hT g a (nI fr) (nI n) (nI (en (Bt (a 1) fr n) p)) (kd (Bt (a 1) fr n) p) (nI p) w op 0 fl)) rfl trivial ?_
      refine P0.cd (d0 := 0) (as := [.ref 0, .int 45]) (rest := []) (r1 := some (.int (if sg (Bt (a 1) fr n) p = (-17) then 1 else 0))) (h1 := hT g a (nI fr) (nI n) (nI (en (Bt (a 1) fr n) p)) (kd (Bt (a 1) fr n) p) (nI p) w op 0 fl) (st' := [.int (if sg (Bt (a 1) fr n) p = (-17) then 1 else 0)]) GX11_isSign kX11_added2_17 rfl ⟨_, _, rfl, rfl, .inl ⟨_, _, _, _, rfl, rfl⟩⟩ (Nat.le_of_ble_eq_true rfl) (Nat.le_of_ble_eq_true rfl) (e_isSign_ok hw (c := 45) (code := (-17)) (by decide +kernel)) (Nat.le_of_ble_eq_true rfl) rfl (Nat.le_of_ble_eq_true rfl) rfl ?_
      refine P0.b GX11_added2 1 (ob := []) (cf' := (if (if sg (Bt (a 1) fr n) p = (-17) then 1 else 0) = 0 then 66 else 23, [some (.ref 0), some (.int x), none, none], [], hT g a (nI fr) (nI n) (nI (en (Bt (a 1) fr n) p)) (kd (Bt (a 1) fr n) p) (nI p) w op 0 fl)) rfl trivial ?_
      refine P0.ifB (fun h2 => ?_) (fun h2 => ?_)
      · refine P0.b GX11_added2 1 (ob := []) (cf' := (67, [some (.ref 0), some (.int x), none, none], [.int x], hT g a (nI fr) (nI n) (nI (en (Bt (a 1) fr n) p)) (kd (Bt (a 1) fr n) p) (nI p) w op 0 fl)) rfl trivial ?_
        exact P0.ri (by decide +kernel) rfl rfl (QP.yes (pch_stop (show jSum (sg (Bt (a 1) fr n) p) = false from by simp only [jSum]; exact decide_eq_false (fun z => z.elim h1 h2))) hw hp)
      · refine P0.b GX11_added2 5 (ob := []) (cf' := (if lg_cmp w 43 = 0 then 34 else 38, [some (.ref 0), some (.int x), none, none], [], hT g a (nI fr) (nI n) (nI (en (Bt (a 1) fr n) p)) (kd (Bt (a 1) fr n) p) (nI p) w op 0 fl)) rfl trivial ?_
        rw [if_neg (show ¬ (lg_cmp w 43 = 0) from by rw [sB_of (c := 45) (code := -17) (by decide +kernel) h2 hw]; decide)]
        refine P0.b GX11_added2 3 (ob := []) (cf' := (41, [some (.ref 0), some (.int x), some (.int 0), none], [.ref 0], hT g a (nI fr) (nI n) (nI (en (Bt (a 1) fr n) p)) (kd (Bt (a 1) fr n) p) (nI p) w op 0 fl)) rfl trivial ?_
        refine P0.cs (as := [.ref 0]) (rest := []) GX11_nextToken kX11_added2_41 rfl ⟨_, _, rfl, rfl, .inl ⟨_, _, _, _, rfl, rfl⟩⟩ (Nat.le_of_ble_eq_true rfl) (Nat.le_of_ble_eq_true rfl) (P0.mono (e_X11_nextToken hT0 (en (Bt (a 1) fr n) p) (en_le hp) _ _ _ _ _ _) (Nat.le_of_ble_eq_true rfl) (Nat.zero_le _) (Nat.zero_le _) (fun _ _ q => q)) (Nat.le_of_ble_eq_true rfl) (fun _ _ q => q.len) ?_
        rintro _ _ ⟨w89, rfl, rfl, hw89⟩
        have hp89 := nx_le (f := a 1) (fr := fr) hp
        show P0 _ _ _ _ (44, [some (.ref 0), some (.int x), some (.int 0), none], [], hT g a (nI fr) (nI n) (nI (en (Bt (a 1) fr n) (nx (Bt (a 1) fr n) p))) (kd (Bt (a 1) fr n) (nx (Bt (a 1) fr n) p)) (nI (nx (Bt (a 1) fr n) p)) w89 op 0 fl) _
        refine P0.b GX11_added2 1 (ob := []) (cf' := (45, [some (.ref 0), some (.int x), some (.int 0), none], [.ref 0], hT g a (nI fr) (nI n) (nI (en (Bt (a 1) fr n) (nx (Bt (a 1) fr n) p))) (kd (Bt (a 1) fr n) (nx (Bt (a 1) fr n) p)) (nI (nx (Bt (a 1) fr n) p)) w89 op 0 fl)) rfl trivial ?_
        refine P0.cs (as := [.ref 0]) (rest := []) GX11_term2 kX11_added2_45 rfl ⟨_, _, rfl, rfl, .inl ⟨_, _, _, _, rfl, rfl⟩⟩ (Nat.le_of_ble_eq_true rfl) (Nat.le_of_ble_eq_true rfl) (P0.mono (e_X11_term2 hT0 hw89 hp89 (op := op) hop) (Nat.le_of_ble_eq_true rfl) (Nat.zero_le _) (Nat.zero_le _) (fun _ _ q => q)) (Nat.le_of_ble_eq_true rfl) (fun _ _ q => q.len) ?_
        rintro r1090 h1090 hq90
        have hq90 : QP g a fr n op (pterm (sg (Bt (a 1) fr n)) (nx (Bt (a 1) fr n)) (vA g) true (lvl (sg (Bt (a 1) fr n)) (nx (Bt (a 1) fr n)) (vA g) 2 0) (lvl (sg (Bt (a 1) fr n)) (nx (Bt (a 1) fr n)) (vA g) 2 2) (nx (Bt (a 1) fr n) p)) r1090 h1090 := hq90
        rcases hR90 : pterm (sg (Bt (a 1) fr n)) (nx (Bt (a 1) fr n)) (vA g) true (lvl (sg (Bt (a 1) fr n)) (nx (Bt (a 1) fr n)) (vA g) 2 0) (lvl (sg (Bt (a 1) fr n)) (nx (Bt (a 1) fr n)) (vA g) 2 2) (nx (Bt (a 1) fr n) p) with q90 | ⟨x90, p90⟩
        · rw [hR90] at hq90
          obtain ⟨v90, e90, tk90, pp90, w90, op90, rfl, rfl⟩ := hq90
          show P0 _ _ _ _ (48, [some (.ref 0), some (.int x), some (.int 0), none], [.int v90], hT g a (nI fr) (nI n) e90 tk90 pp90 w90 op90 1 (nI q90)) _
          refine P0.b GX11_added2 8 (ob := []) (cf' := (5, [some (.ref 0), some (.int (x - v90)), some (.int 0), some (.int v90)], [], hT g a (nI fr) (nI n) e90 tk90 pp90 w90 op90 1 (nI q90))) rfl trivial ?_
          refine P0.b GX11_added2 2 (ob := []) (cf' := (8, [some (.ref 0), some (.int (x - v90)), some (.int 0), some (.int v90)], [.int 43, .ref 0], hT g a (nI fr) (nI n) e90 tk90 pp90 w90 op90 1 (nI q90))) rfl trivial ?_
          refine P0.cd (d0 := 0) (as := [.ref 0, .int 43]) (rest := []) (r1 := some (.int 0)) (h1 := hT g a (nI fr) (nI n) e90 tk90 pp90 w90 op90 1 (nI q90)) (st' := [.int 0]) GX11_isSign kX11_added2_8 rfl ⟨_, _, rfl, rfl, .inl ⟨_, _, _, _, rfl, rfl⟩⟩ (Nat.le_of_ble_eq_true rfl) (Nat.le_of_ble_eq_true rfl) (e_isSign_bad (c := 43)) (Nat.le_of_ble_eq_true rfl) rfl (Nat.le_of_ble_eq_true rfl) rfl ?_
          refine P0.b GX11_added2 3 (ob := []) (cf' := (17, [some (.ref 0), some (.int (x - v90)), some (.int 0), some (.int v90)], [.int 45, .ref 0], hT g a (nI fr) (nI n) e90 tk90 pp90 w90 op90 1 (nI q90))) rfl trivial ?_
          refine P0.cd (d0 := 0) (as := [.ref 0, .int 45]) (rest := []) (r1 := some (.int 0)) (h1 := hT g a (nI fr) (nI n) e90 tk90 pp90 w90 op90 1 (nI q90)) (st' := [.int 0]) GX11_isSign kX11_added2_17 rfl ⟨_, _, rfl, rfl, .inl ⟨_, _, _, _, rfl, rfl⟩⟩ (Nat.le_of_ble_eq_true rfl) (Nat.le_of_ble_eq_true rfl) (e_isSign_bad (c := 45)) (Nat.le_of_ble_eq_true rfl) rfl (Nat.le_of_ble_eq_true rfl) rfl ?_
          refine P0.b GX11_added2 2 (ob := []) (cf' := (67, [some (.ref 0), some (.int (x - v90)), some (.int 0), some (.int v90)], [.int (x - v90)], hT g a (nI fr) (nI n) e90 tk90 pp90 w90 op90 1 (nI q90))) rfl trivial ?_
          exact P0.ri (by decide +kernel) rfl rfl (QP.no (pch_fail (show jSum (sg (Bt (a 1) fr n) p) = true from by rw [h2]; decide) hR90) (x - v90) e90 tk90 pp90 w90 op90)
        · rw [hR90] at hq90
          obtain ⟨w90, fl90, rfl, rfl, hw90, hp90⟩ := hq90
          show P0 _ _ _ _ (48, [some (.ref 0), some (.int x), some (.int 0), none], [.int x90], hT g a (nI fr) (nI n) (nI (en (Bt (a 1) fr n) p90)) (kd (Bt (a 1) fr n) p90) (nI p90) w90 op 0 fl90) _
          refine P0.b GX11_added2 8 (ob := []) (cf' := (5, [some (.ref 0), some (.int (x - x90)), some (.int 0), some (.int x90)], [], hT g a (nI fr) (nI n) (nI (en (Bt (a 1) fr n) p90)) (kd (Bt (a 1) fr n) p90) (nI p90) w90 op 0 fl90)) rfl trivial ?_
          rw [pch_step (show jSum (sg (Bt (a 1) fr n) p) = true from by rw [h2]; decide) hR90, show (vA g).2.2 (sg (Bt (a 1) fr n) p) x x90 = (x - x90) from by rw [h2]; rfl]
          refine P0.forget (ls' := [some (.ref 0), some (.int (x - x90)), none, none]) ⟨.inr rfl, .inr rfl, .inl rfl, .inl rfl, trivial⟩ ?_
          exact lp_X11_added2 hT0 hop f _ _ _ _ hw90 hp90 (by have h1 := nx_lt (B := (Bt (a 1) fr n)) (p := p) (by rw [h2]; decide) (by rw [h2]; decide); have h2 := (prog_c0 nx_lt jT_ok (prog_one nx_lt (prog_lvl nx_lt (vA g) 2 0) (prog_lvl nx_lt (vA g) 2 2))) _ _ _ hR90; omega)
    · refine P0.b GX11_added2 5 (ob := []) (cf' := (if lg_cmp w 43 = 0 then 34 else 38, [some (.ref 0), some (.int x), none, none], [], hT g a (nI fr) (nI n) (nI (en (Bt (a 1) fr n) p)) (kd (Bt (a 1) fr n) p) (nI p) w op 0 fl)) rfl trivial ?_
      rw [if_pos (show lg_cmp w 43 = 0 from (lgc_eq _ _).mpr (sB_of (c := 43) (code := -16) (by decide +kernel) h1 hw))]
      refine P0.b GX11_added2 4 (ob := []) (cf' := (41, [some (.ref 0), some (.int x), some (.int 1), none], [.ref 0], hT g a (nI fr) (nI n) (nI (en (Bt (a 1) fr n) p)) (kd (Bt (a 1) fr n) p) (nI p) w op 0 fl)) rfl trivial ?_
      refine P0.cs (as := [.ref 0]) (rest := []) GX11_nextToken kX11_added2_41 rfl ⟨_, _, rfl, rfl, .inl ⟨_, _, _, _, rfl, rfl⟩⟩ (Nat.le_of_ble_eq_true rfl) (Nat.le_of_ble_eq_true rfl) (P0.mono (e_X11_nextToken hT0 (en (Bt (a 1) fr n) p) (en_le hp) _ _ _ _ _ _) (Nat.le_of_ble_eq_true rfl) (Nat.zero_le _) (Nat.zero_le _) (fun _ _ q => q)) (Nat.le_of_ble_eq_true rfl) (fun _ _ q => q.len) ?_
      rintro _ _ ⟨w91, rfl, rfl, hw91⟩
      have hp91 := nx_le (f := a 1) (fr := fr) hp
      show P0 _ _ _ _ (44, [some (.ref 0), some (.int x), some (.int 1), none], [], hT g a (nI fr) (nI n) (nI (en (Bt (a 1) fr n) (nx (Bt (a 1) fr n) p))) (kd (Bt (a 1) fr n) (nx (Bt (a 1) fr n) p)) (nI (nx (Bt (a 1) fr n) p)) w91 op 0 fl) _
      refine P0.b GX11_added2 1 (ob := []) (cf' := (45, [some (.ref 0), some (.int x), some (.int 1), none], [.ref 0], hT g a (nI fr) (nI n) (nI (en (Bt (a 1) fr n) (nx (Bt (a 1) fr n) p))) (kd (Bt (a 1) fr n) (nx (Bt (a 1) fr n) p)) (nI (nx (Bt (a 1) fr n) p)) w91 op 0 fl)) rfl trivial ?_
      refine P0.cs (as := [.ref 0]) (rest := []) GX11_term2 kX11_added2_45 rfl ⟨_, _, rfl, rfl, .inl ⟨_, _, _, _, rfl, rfl⟩⟩ (Nat.le_of_ble_eq_true rfl) (Nat.le_of_ble_eq_true rfl) (P0.mono (e_X11_term2 hT0 hw91 hp91 (op := op) hop) (Nat.le_of_ble_eq_true rfl) (Nat.zero_le _) (Nat.zero_le _) (fun _ _ q => q)) (Nat.le_of_ble_eq_true rfl) (fun _ _ q => q.len) ?_
      rintro r1092 h1092 hq92
      have hq92 : QP g a fr n op (pterm (sg (Bt (a 1) fr n)) (nx (Bt (a 1) fr n)) (vA g) true (lvl (sg (Bt (a 1) fr n)) (nx (Bt (a 1) fr n)) (vA g) 2 0) (lvl (sg (Bt (a 1) fr n)) (nx (Bt (a 1) fr n)) (vA g) 2 2) (nx (Bt (a 1) fr n) p)) r1092 h1092 := hq92
      rcases hR92 : pterm (sg (Bt (a 1) fr n)) (nx (Bt (a 1) fr n)) (vA g) true (lvl (sg (Bt (a 1) fr n)) (nx (Bt (a 1) fr n)) (vA g) 2 0) (lvl (sg (Bt (a 1) fr n)) (nx (Bt (a 1) fr n)) (vA g) 2 2) (nx (Bt (a 1) fr n) p) with q92 | ⟨x92, p92⟩
      · rw [hR92] at hq92
        obtain ⟨v92, e92, tk92, pp92, w92, op92, rfl, rfl⟩ := hq92
        show P0 _ _ _ _ (48, [some (.ref 0), some (.int x), some (.int 1), none], [.int v92], hT g a (nI fr) (nI n) e92 tk92 pp92 w92 op92 1 (nI q92)) _
        refine P0.b GX11_added2 9 (ob := []) (cf' := (5, [some (.ref 0), some (.int (x + v92)), some (.int 1), some (.int v92)], [], hT g a (nI fr) (nI n) e92 tk92 pp92 w92 op92 1 (nI q92))) rfl trivial ?_
        refine P0.b GX11_added2 2 (ob := []) (cf' := (8, [some (.ref 0), some (.int (x + v92)), some (.int 1), some (.int v92)], [.int 43, .ref 0], hT g a (nI fr) (nI n) e92 tk92 pp92 w92 op92 1 (nI q92))) rfl trivial ?_
        refine P0.cd (d0 := 0) (as := [.ref 0, .int 43]) (rest := []) (r1 := some (.int 0)) (h1 := hT g a (nI fr) (nI n) e92 tk92 pp92 w92 op92 1 (nI q92)) (st' := [.int 0]) GX11_isSign kX11_added2_8 rfl ⟨_, _, rfl, rfl, .inl ⟨_, _, _, _, rfl, rfl⟩⟩ (Nat.le_of_ble_eq_true rfl) (Nat.le_of_ble_eq_true rfl) (e_isSign_bad (c := 43)) (Nat.le_of_ble_eq_true rfl) rfl (Nat.le_of_ble_eq_true rfl) rfl ?_
        refine P0.b GX11_added2 3 (ob := []) (cf' := (17, [some (.ref 0), some (.int (x + v92)), some (.int 1), some (.int v92)], [.int 45, .ref 0], hT g a (nI fr) (nI n) e92 tk92 pp92 w92 op92 1 (nI q92))) rfl trivial ?_
        refine P0.cd (d0 := 0) (as := [.ref 0, .int 45]) (rest := []) (r1 := some (.int 0)) (h1 := hT g a (nI fr) (nI n) e92 tk92 pp92 w92 op92 1 (nI q92)) (st' := [.int 0]) GX11_isSign kX11_added2_17 rfl ⟨_, _, rfl, rfl, .inl ⟨_, _, _, _, rfl, rfl⟩⟩ (Nat.le_of_ble_eq_true rfl) (Nat.le_of_ble_eq_true rfl) (e_isSign_bad (c := 45)) (Nat.le_of_ble_eq_true rfl) rfl (Nat.le_of_ble_eq_true rfl) rfl ?_
        refine P0.b GX11_added2 2 (ob := []) (cf' := (67, [some (.ref 0), some (.int (x + v92)), some (.int 1), some (.int v92)], [.int (x + v92)], hT g a (nI fr) (nI n) e92 tk92 pp92 w92 op92 1 (nI q92))) rfl trivial ?_
        exact P0.ri (by decide +kernel) rfl rfl (QP.no (pch_fail (show jSum (sg (Bt (a 1) fr n) p) = true from by rw [h1]; decide) hR92) (x + v92) e92 tk92 pp92 w92 op92)
      · rw [hR92] at hq92
        obtain ⟨w92, fl92, rfl, rfl, hw92, hp92⟩ := hq92
        show P0 _ _ _ _ (48, [some (.ref 0), some (.int x), some (.int 1), none], [.int x92], hT g a (nI fr) (nI n) (nI (en (Bt (a 1) fr n) p92)) (kd (Bt (a 1) fr n) p92) (nI p92) w92 op 0 fl92) _
        refine P0.b GX11_added2 9 (ob := []) (cf' := (5, [some (.ref 0), some (.int (x + x92)), some (.int 1), some (.int x92)], [], hT g a (nI fr) (nI n) (nI (en (Bt (a 1) fr n) p92)) (kd (Bt (a 1) fr n) p92) (nI p92) w92 op 0 fl92)) rfl trivial ?_
        rw [pch_step (show jSum (sg (Bt (a 1) fr n) p) = true from by rw [h1]; decide) hR92, show (vA g).2.2 (sg (Bt (a 1) fr n) p) x x92 = (x + x92) from by rw [h1]; rfl]
        refine P0.forget (ls' := [some (.ref 0), some (.int (x + x92)), none, none]) ⟨.inr rfl, .inr rfl, .inl rfl, .inl rfl, trivial⟩ ?_
        exact lp_X11_added2 hT0 hop f _ _ _ _ hw92 hp92 (by have h1 := nx_lt (B := (Bt (a 1) fr n)) (p := p) (by rw [h1]; decide) (by rw [h1]; decide); have h2 := (prog_c0 nx_lt jT_ok (prog_one nx_lt (prog_lvl nx_lt (vA g) 2 0) (prog_lvl nx_lt (vA g) 2 2))) _ _ _ hR92; omega)
set_option maxHeartbeats 2000000 in
theorem e_X11_added2 {g : Nat → Int32} {a : Nat → Nat → Int32} {fr n : Nat} (hT0 : TxOK a fr n) {p : Nat} {w : Int64} {fl : Int32} (hw : wOK (Bt (a 1) fr n) p w) (hp : p ≤ n) {op : Int32} (hop : op = 2) : P0 24 0 0 mX11_added2 (0, ent 4 [.ref 0], [], hT g a (nI fr) (nI n) (nI (en (Bt (a 1) fr n) p)) (kd (Bt (a 1) fr n) p) (nI p) w op 0 fl) (QP g a fr n op (psum (sg (Bt (a 1) fr n)) (nx (Bt (a 1) fr n)) (vA g) true (lvl (sg (Bt (a 1) fr n)) (nx (Bt (a 1) fr n)) (vA g) 2 0) (lvl (sg (Bt (a 1) fr n)) (nx (Bt (a 1) fr n)) (vA g) 2 2) p)) := by
  show P0 _ _ _ _ _ (QP g a fr n op (pc0 (sg (Bt (a 1) fr n)) (nx (Bt (a 1) fr n)) (vA g).2.2 jSum (pterm (sg (Bt (a 1) fr n)) (nx (Bt (a 1) fr n)) (vA g) true (lvl (sg (Bt (a 1) fr n)) (nx (Bt (a 1) fr n)) (vA g) 2 0) (lvl (sg (Bt (a 1) fr n)) (nx (Bt (a 1) fr n)) (vA g) 2 2)) p))
  refine P0.b GX11_added2 1 (ob := []) (cf' := (1, [some (.ref 0), none, none, none], [.ref 0], hT g a (nI fr) (nI n) (nI (en (Bt (a 1) fr n) p)) (kd (Bt (a 1) fr n) p) (nI p) w op 0 fl)) rfl trivial ?_
  refine P0.cs (as := [.ref 0]) (rest := []) GX11_term2 kX11_added2_1 rfl ⟨_, _, rfl, rfl, .inl ⟨_, _, _, _, rfl, rfl⟩⟩ (Nat.le_of_ble_eq_true rfl) (Nat.le_of_ble_eq_true rfl) (P0.mono (e_X11_term2 hT0 hw hp (op := op) hop) (Nat.le_of_ble_eq_true rfl) (Nat.zero_le _) (Nat.zero_le _) (fun _ _ q => q)) (Nat.le_of_ble_eq_true rfl) (fun _ _ q => q.len) ?_
  rintro r1093 h1093 hq93
  have hq93 : QP g a fr n op (pterm (sg (Bt (a 1) fr n)) (nx (Bt (a 1) fr n)) (vA g) true (lvl (sg (Bt (a 1) fr n)) (nx (Bt (a 1) fr n)) (vA g) 2 0) (lvl (sg (Bt (a 1) fr n)) (nx (Bt (a 1) fr n)) (vA g) 2 2) p) r1093 h1093 := hq93
  rcases hR93 : pterm (sg (Bt (a 1) fr n)) (nx (Bt (a 1) fr n)) (vA g) true (lvl (sg (Bt (a 1) fr n)) (nx (Bt (a 1) fr n)) (vA g) 2 0) (lvl (sg (Bt (a 1) fr n)) (nx (Bt (a 1) fr n)) (vA g) 2 2) p with q93 | ⟨x93, p93⟩
  · rw [hR93] at hq93
    obtain ⟨v93, e93, tk93, pp93, w93, op93, rfl, rfl⟩ := hq93
    show P0 _ _ _ _ (4, [some (.ref 0), none, none, none], [.int v93], hT g a (nI fr) (nI n) e93 tk93 pp93 w93 op93 1 (nI q93)) _
    refine P0.b GX11_added2 1 (ob := []) (cf' := (5, [some (.ref 0), some (.int v93), none, none], [], hT g a (nI fr) (nI n) e93 tk93 pp93 w93 op93 1 (nI q93))) rfl trivial ?_
    refine P0.b GX11_added2 2 (ob := []) (cf' := (8, [some (.ref 0), some (.int v93), none, none], [.int 43, .ref 0], hT g a (nI fr) (nI n) e93 tk93 pp93 w93 op93 1 (nI q93))) rfl trivial ?_
    refine P0.cd (d0 := 0) (as := [.ref 0, .int 43]) (rest := []) (r1 := some (.int 0)) (h1 := hT g a (nI fr) (nI n) e93 tk93 pp93 w93 op93 1 (nI q93)) (st' := [.int 0]) GX11_isSign kX11_added2_8 rfl ⟨_, _, rfl, rfl, .inl ⟨_, _, _, _, rfl, rfl⟩⟩ (Nat.le_of_ble_eq_true rfl) (Nat.le_of_ble_eq_true rfl) (e_isSign_bad (c := 43)) (Nat.le_of_ble_eq_true rfl) rfl (Nat.le_of_ble_eq_true rfl) rfl ?_
    refine P0.b GX11_added2 3 (ob := []) (cf' := (17, [some (.ref 0), some (.int v93), none, none], [.int 45, .ref 0], hT g a (nI fr) (nI n) e93 tk93 pp93 w93 op93 1 (nI q93))) rfl trivial ?_
    refine P0.cd (d0 := 0) (as := [.ref 0, .int 45]) (rest := []) (r1 := some (.int 0)) (h1 := hT g a (nI fr) (nI n) e93 tk93 pp93 w93 op93 1 (nI q93)) (st' := [.int 0]) GX11_isSign kX11_added2_17 rfl ⟨_, _, rfl, rfl, .inl ⟨_, _, _, _, rfl, rfl⟩⟩ (Nat.le_of_ble_eq_true rfl) (Nat.le_of_ble_eq_true rfl) (e_isSign_bad (c := 45)) (Nat.le_of_ble_eq_true rfl) rfl (Nat.le_of_ble_eq_true rfl) rfl ?_
    refine P0.b GX11_added2 2 (ob := []) (cf' := (67, [some (.ref 0), some (.int v93), none, none], [.int v93], hT g a (nI fr) (nI n) e93 tk93 pp93 w93 op93 1 (nI q93))) rfl trivial ?_
    exact P0.ri (by decide +kernel) rfl rfl (QP.no (pc0_no hR93) v93 e93 tk93 pp93 w93 op93)
  · rw [hR93] at hq93
    obtain ⟨w93, fl93, rfl, rfl, hw93, hp93⟩ := hq93
    show P0 _ _ _ _ (4, [some (.ref 0), none, none, none], [.int x93], hT g a (nI fr) (nI n) (nI (en (Bt (a 1) fr n) p93)) (kd (Bt (a 1) fr n) p93) (nI p93) w93 op 0 fl93) _
    refine P0.b GX11_added2 1 (ob := []) (cf' := (5, [some (.ref 0), some (.int x93), none, none], [], hT g a (nI fr) (nI n) (nI (en (Bt (a 1) fr n) p93)) (kd (Bt (a 1) fr n) p93) (nI p93) w93 op 0 fl93)) rfl trivial ?_
    rw [pc0_yes hR93]
    exact lp_X11_added2 hT0 hop 200 _ _ _ _ hw93 hp93 (by have := hT0.2.1; omega)
set_option maxHeartbeats 2000000 in
theorem e_X11_not2 {g : Nat → Int32} {a : Nat → Nat → Int32} {fr n : Nat} (hT0 : TxOK a fr n) {p : Nat} {w : Int64} {fl : Int32} (hw : wOK (Bt (a 1) fr n) p w) (hp : p ≤ n) {op : Int32} (hop : op = 2) : P0 25 0 0 mX11_not2 (0, ent 4 [.ref 0], [], hT g a (nI fr) (nI n) (nI (en (Bt (a 1) fr n) p)) (kd (Bt (a 1) fr n) p) (nI p) w op 0 fl) (QP g a fr n op (lvl (sg (Bt (a 1) fr n)) (nx (Bt (a 1) fr n)) (vA g) 3 1 p)) := by
  show P0 _ _ _ _ _ (QP g a fr n op (pnot (sg (Bt (a 1) fr n)) (nx (Bt (a 1) fr n)) (vA g) true (lvl (sg (Bt (a 1) fr n)) (nx (Bt (a 1) fr n)) (vA g) 2 0) (lvl (sg (Bt (a 1) fr n)) (nx (Bt (a 1) fr n)) (vA g) 2 1) (lvl (sg (Bt (a 1) fr n)) (nx (Bt (a 1) fr n)) (vA g) 2 2) p))
  refine P0.b GX11_not2 9 (ob := []) (cf' := (12, [some (.ref 0), none, none, none], [.int 0, .int 0, .int 0, .int 0, .int 0, .int 116, .int 111, .int 110, .ref 0], hT g a (nI fr) (nI n) (nI (en (Bt (a 1) fr n) p)) (kd (Bt (a 1) fr n) p) (nI p) w op 0 fl)) rfl trivial ?_
  refine P0.cd (d0 := 2) (as := [.ref 0, .int 110, .int 111, .int 116, .int 0, .int 0, .int 0, .int 0, .int 0]) (rest := []) (r1 := some (.int (if sg (Bt (a 1) fr n) p = (-12) then 1 else 0))) (h1 := hT g a (nI fr) (nI n) (nI (en (Bt (a 1) fr n) p)) (kd (Bt (a 1) fr n) p) (nI p) w op 0 fl) (st' := [.int (if sg (Bt (a 1) fr n) p = (-12) then 1 else 0)]) GX11_isWord kX11_not2_12 rfl ⟨_, _, rfl, rfl, .inl ⟨_, _, _, _, rfl, rfl⟩⟩ (Nat.le_of_ble_eq_true rfl) (Nat.le_of_ble_eq_true rfl) (e_isWord_ok hT0 hp (cs := [110, 111, 116]) (code := (-12)) (by decide +kernel) (by decide) (by decide)) (Nat.le_of_ble_eq_true rfl) rfl (Nat.le_of_ble_eq_true rfl) rfl ?_
  refine P0.b GX11_not2 1 (ob := []) (cf' := (if (if sg (Bt (a 1) fr n) p = (-12) then 1 else 0) = 0 then 52 else 18, [some (.ref 0), none, none, none], [], hT g a (nI fr) (nI n) (nI (en (Bt (a 1) fr n) p)) (kd (Bt (a 1) fr n) p) (nI p) w op 0 fl)) rfl trivial ?_
  refine P0.ifB (fun h1 => ?_) (fun h1 => ?_)
  · refine P0.b GX11_not2 1 (ob := []) (cf' := (53, [some (.ref 0), none, none, none], [.ref 0], hT g a (nI fr) (nI n) (nI (en (Bt (a 1) fr n) p)) (kd (Bt (a 1) fr n) p) (nI p) w op 0 fl)) rfl trivial ?_
    refine P0.cs (as := [.ref 0]) (rest := []) GX11_added2 kX11_not2_53 rfl ⟨_, _, rfl, rfl, .inl ⟨_, _, _, _, rfl, rfl⟩⟩ (Nat.le_of_ble_eq_true rfl) (Nat.le_of_ble_eq_true rfl) (P0.mono (e_X11_added2 hT0 hw hp (op := op) hop) (Nat.le_of_ble_eq_true rfl) (Nat.zero_le _) (Nat.zero_le _) (fun _ _ q => q)) (Nat.le_of_ble_eq_true rfl) (fun _ _ q => q.len) ?_
    rintro r1094 h1094 hq94
    have hq94 : QP g a fr n op (psum (sg (Bt (a 1) fr n)) (nx (Bt (a 1) fr n)) (vA g) true (lvl (sg (Bt (a 1) fr n)) (nx (Bt (a 1) fr n)) (vA g) 2 0) (lvl (sg (Bt (a 1) fr n)) (nx (Bt (a 1) fr n)) (vA g) 2 2) p) r1094 h1094 := hq94
    rcases hR94 : psum (sg (Bt (a 1) fr n)) (nx (Bt (a 1) fr n)) (vA g) true (lvl (sg (Bt (a 1) fr n)) (nx (Bt (a 1) fr n)) (vA g) 2 0) (lvl (sg (Bt (a 1) fr n)) (nx (Bt (a 1) fr n)) (vA g) 2 2) p with q94 | ⟨x94, p94⟩
    · rw [hR94] at hq94
      obtain ⟨v94, e94, tk94, pp94, w94, op94, rfl, rfl⟩ := hq94
      show P0 _ _ _ _ (56, [some (.ref 0), none, none, none], [.int v94], hT g a (nI fr) (nI n) e94 tk94 pp94 w94 op94 1 (nI q94)) _
      refine P0.b GX11_not2 3 (ob := []) (cf' := (60, [some (.ref 0), some (.int v94), none, none], [.int 60, .ref 0], hT g a (nI fr) (nI n) e94 tk94 pp94 w94 op94 1 (nI q94))) rfl trivial ?_
      refine P0.cd (d0 := 0) (as := [.ref 0, .int 60]) (rest := []) (r1 := some (.int 0)) (h1 := hT g a (nI fr) (nI n) e94 tk94 pp94 w94 op94 1 (nI q94)) (st' := [.int 0]) GX11_isSign kX11_not2_60 rfl ⟨_, _, rfl, rfl, .inl ⟨_, _, _, _, rfl, rfl⟩⟩ (Nat.le_of_ble_eq_true rfl) (Nat.le_of_ble_eq_true rfl) (e_isSign_bad (c := 60)) (Nat.le_of_ble_eq_true rfl) rfl (Nat.le_of_ble_eq_true rfl) rfl ?_
      refine P0.b GX11_not2 3 (ob := []) (cf' := (69, [some (.ref 0), some (.int v94), none, none], [.int 61, .ref 0], hT g a (nI fr) (nI n) e94 tk94 pp94 w94 op94 1 (nI q94))) rfl trivial ?_
      refine P0.cd (d0 := 0) (as := [.ref 0, .int 61]) (rest := []) (r1 := some (.int 0)) (h1 := hT g a (nI fr) (nI n) e94 tk94 pp94 w94 op94 1 (nI q94)) (st' := [.int 0]) GX11_isSign kX11_not2_69 rfl ⟨_, _, rfl, rfl, .inl ⟨_, _, _, _, rfl, rfl⟩⟩ (Nat.le_of_ble_eq_true rfl) (Nat.le_of_ble_eq_true rfl) (e_isSign_bad (c := 61)) (Nat.le_of_ble_eq_true rfl) rfl (Nat.le_of_ble_eq_true rfl) rfl ?_
      refine P0.b GX11_not2 2 (ob := []) (cf' := (76, [some (.ref 0), some (.int v94), none, none], [.int v94], hT g a (nI fr) (nI n) e94 tk94 pp94 w94 op94 1 (nI q94))) rfl trivial ?_
      exact P0.ri (by decide +kernel) rfl rfl (QP.no ((pnot_sum h1).trans (by rw [hR94]; rfl)) v94 e94 tk94 pp94 w94 op94)
    · rw [hR94] at hq94
      obtain ⟨w94, fl94, rfl, rfl, hw94, hp94⟩ := hq94
      show P0 _ _ _ _ (56, [some (.ref 0), none, none, none], [.int x94], hT g a (nI fr) (nI n) (nI (en (Bt (a 1) fr n) p94)) (kd (Bt (a 1) fr n) p94) (nI p94) w94 op 0 fl94) _
      refine P0.b GX11_not2 3 (ob := []) (cf' := (60, [some (.ref 0), some (.int x94), none, none], [.int 60, .ref 0], hT g a (nI fr) (nI n) (nI (en (Bt (a 1) fr n) p94)) (kd (Bt (a 1) fr n) p94) (nI p94) w94 op 0 fl94)) rfl trivial ?_
      refine P0.cd (d0 := 0) (as := [.ref 0, .int 60]) (rest := []) (r1 := some (.int (if sg (Bt (a 1) fr n) p94 = (-19) then 1 else 0))) (h1 := hT g a (nI fr) (nI n) (nI (en (Bt (a 1) fr n) p94)) (kd (Bt (a 1) fr n) p94) (nI p94) w94 op 0 fl94) (st' := [.int (if sg (Bt (a 1) fr n) p94 = (-19) then 1 else 0)]) GX11_isSign kX11_not2_60 rfl ⟨_, _, rfl, rfl, .inl ⟨_, _, _, _, rfl, rfl⟩⟩ (Nat.le_of_ble_eq_true rfl) (Nat.le_of_ble_eq_true rfl) (e_isSign_ok hw94 (c := 60) (code := (-19)) (by decide +kernel)) (Nat.le_of_ble_eq_true rfl) rfl (Nat.le_of_ble_eq_true rfl) rfl ?_
      refine P0.b GX11_not2 1 (ob := []) (cf' := (if (if sg (Bt (a 1) fr n) p94 = (-19) then 1 else 0) = 0 then 66 else 77, [some (.ref 0), some (.int x94), none, none], [], hT g a (nI fr) (nI n) (nI (en (Bt (a 1) fr n) p94)) (kd (Bt (a 1) fr n) p94) (nI p94) w94 op 0 fl94)) rfl trivial ?_
      refine P0.ifB (fun h2 => ?_) (fun h2 => ?_)
      · refine P0.b GX11_not2 2 (ob := []) (cf' := (69, [some (.ref 0), some (.int x94), none, none], [.int 61, .ref 0], hT g a (nI fr) (nI n) (nI (en (Bt (a 1) fr n) p94)) (kd (Bt (a 1) fr n) p94) (nI p94) w94 op 0 fl94)) rfl trivial ?_
        refine P0.cd (d0 := 0) (as := [.ref 0, .int 61]) (rest := []) (r1 := some (.int (if sg (Bt (a 1) fr n) p94 = (-20) then 1 else 0))) (h1 := hT g a (nI fr) (nI n) (nI (en (Bt (a 1) fr n) p94)) (kd (Bt (a 1) fr n) p94) (nI p94) w94 op 0 fl94) (st' := [.int (if sg (Bt (a 1) fr n) p94 = (-20) then 1 else 0)]) GX11_isSign kX11_not2_69 rfl ⟨_, _, rfl, rfl, .inl ⟨_, _, _, _, rfl, rfl⟩⟩ (Nat.le_of_ble_eq_true rfl) (Nat.le_of_ble_eq_true rfl) (e_isSign_ok hw94 (c := 61) (code := (-20)) (by decide +kernel)) (Nat.le_of_ble_eq_true rfl) rfl (Nat.le_of_ble_eq_true rfl) rfl ?_
        refine P0.b GX11_not2 1 (ob := []) (cf' := (if (if sg (Bt (a 1) fr n) p94 = (-20) then 1 else 0) = 0 then 75 else 77, [some (.ref 0), some (.int x94), none, none], [], hT g a (nI fr) (nI n) (nI (en (Bt (a 1) fr n) p94)) (kd (Bt (a 1) fr n) p94) (nI p94) w94 op 0 fl94)) rfl trivial ?_
        refine P0.ifB (fun h3 => ?_) (fun h3 => ?_)
        · refine P0.b GX11_not2 1 (ob := []) (cf' := (76, [some (.ref 0), some (.int x94), none, none], [.int x94], hT g a (nI fr) (nI n) (nI (en (Bt (a 1) fr n) p94)) (kd (Bt (a 1) fr n) p94) (nI p94) w94 op 0 fl94)) rfl trivial ?_
          exact P0.ri (by decide +kernel) rfl rfl (QP.yes ((pnot_sum h1).trans (by rw [hR94]; exact if_neg (fun z => z.elim h2 h3))) hw94 hp94)
        · refine P0.b GX11_not2 5 (ob := []) (cf' := (if lg_cmp w94 60 = 0 then 88 else 92, [some (.ref 0), some (.int x94), none, none], [], hT g a (nI fr) (nI n) (nI (en (Bt (a 1) fr n) p94)) (kd (Bt (a 1) fr n) p94) (nI p94) w94 op 0 fl94)) rfl trivial ?_
          rw [if_neg (show ¬ (lg_cmp w94 60 = 0) from by rw [sB_of (c := 61) (code := -20) (by decide +kernel) h3 hw94]; decide)]
          refine P0.b GX11_not2 3 (ob := []) (cf' := (95, [some (.ref 0), some (.int x94), some (.int 0), none], [.ref 0], hT g a (nI fr) (nI n) (nI (en (Bt (a 1) fr n) p94)) (kd (Bt (a 1) fr n) p94) (nI p94) w94 op 0 fl94)) rfl trivial ?_
          refine P0.cs (as := [.ref 0]) (rest := []) GX11_nextToken kX11_not2_95 rfl ⟨_, _, rfl, rfl, .inl ⟨_, _, _, _, rfl, rfl⟩⟩ (Nat.le_of_ble_eq_true rfl) (Nat.le_of_ble_eq_true rfl) (P0.mono (e_X11_nextToken hT0 (en (Bt (a 1) fr n) p94) (en_le hp94) _ _ _ _ _ _) (Nat.le_of_ble_eq_true rfl) (Nat.zero_le _) (Nat.zero_le _) (fun _ _ q => q)) (Nat.le_of_ble_eq_true rfl) (fun _ _ q => q.len) ?_
          rintro _ _ ⟨w95, rfl, rfl, hw95⟩
          have hp95 := nx_le (f := a 1) (fr := fr) hp94
          show P0 _ _ _ _ (98, [some (.ref 0), some (.int x94), some (.int 0), none], [], hT g a (nI fr) (nI n) (nI (en (Bt (a 1) fr n) (nx (Bt (a 1) fr n) p94))) (kd (Bt (a 1) fr n) (nx (Bt (a 1) fr n) p94)) (nI (nx (Bt (a 1) fr n) p94)) w95 op 0 fl94) _
          refine P0.b GX11_not2 1 (ob := []) (cf' := (99, [some (.ref 0), some (.int x94), some (.int 0), none], [.ref 0], hT g a (nI fr) (nI n) (nI (en (Bt (a 1) fr n) (nx (Bt (a 1) fr n) p94))) (kd (Bt (a 1) fr n) (nx (Bt (a 1) fr n) p94)) (nI (nx (Bt (a 1) fr n) p94)) w95 op 0 fl94)) rfl trivial ?_
          refine P0.cs (as := [.ref 0]) (rest := []) GX11_added2 kX11_not2_99 rfl ⟨_, _, rfl, rfl, .inl ⟨_, _, _, _, rfl, rfl⟩⟩ (Nat.le_of_ble_eq_true rfl) (Nat.le_of_ble_eq_true rfl) (P0.mono (e_X11_added2 hT0 hw95 hp95 (op := op) hop) (Nat.le_of_ble_eq_true rfl) (Nat.zero_le _) (Nat.zero_le _) (fun _ _ q => q)) (Nat.le_of_ble_eq_true rfl) (fun _ _ q => q.len) ?_
          rintro r1096 h1096 hq96
          have hq96 : QP g a fr n op (psum (sg (Bt (a 1) fr n)) (nx (Bt (a 1) fr n)) (vA g) true (lvl (sg (Bt (a 1) fr n)) (nx (Bt (a 1) fr n)) (vA g) 2 0) (lvl (sg (Bt (a 1) fr n)) (nx (Bt (a 1) fr n)) (vA g) 2 2) (nx (Bt (a 1) fr n) p94)) r1096 h1096 := hq96
          rcases hR96 : psum (sg (Bt (a 1) fr n)) (nx (Bt (a 1) fr n)) (vA g) true (lvl (sg (Bt (a 1) fr n)) (nx (Bt (a 1) fr n)) (vA g) 2 0) (lvl (sg (Bt (a 1) fr n)) (nx (Bt (a 1) fr n)) (vA g) 2 2) (nx (Bt (a 1) fr n) p94) with q96 | ⟨x96, p96⟩
          · rw [hR96] at hq96
            obtain ⟨v96, e96, tk96, pp96, w96, op96, rfl, rfl⟩ := hq96
            show P0 _ _ _ _ (102, [some (.ref 0), some (.int x94), some (.int 0), none], [.int v96], hT g a (nI fr) (nI n) e96 tk96 pp96 w96 op96 1 (nI q96)) _
            refine P0.b GX11_not2 6 (ob := []) (cf' := (if x94 = v96 then 120 else 124, [some (.ref 0), some (.int x94), some (.int 0), some (.int v96)], [], hT g a (nI fr) (nI n) e96 tk96 pp96 w96 op96 1 (nI q96))) rfl trivial ?_
            refine P0.if (fun h4 => ?_) (fun h4 => ?_)
            · refine P0.b GX11_not2 2 (ob := []) (cf' := (125, [some (.ref 0), some (.int x94), some (.int 0), some (.int v96)], [.int 1], hT g a (nI fr) (nI n) e96 tk96 pp96 w96 op96 1 (nI q96))) rfl trivial ?_
              exact P0.ri (by decide +kernel) rfl rfl (QP.no ((pnot_sum h1).trans (by rw [hR94]; show (if _ then _ else _) = _; rw [if_pos (Or.inr h3), hR96]; rfl)) 1 e96 tk96 pp96 w96 op96)
            · refine P0.b GX11_not2 1 (ob := []) (cf' := (125, [some (.ref 0), some (.int x94), some (.int 0), some (.int v96)], [.int 0], hT g a (nI fr) (nI n) e96 tk96 pp96 w96 op96 1 (nI q96))) rfl trivial ?_
              exact P0.ri (by decide +kernel) rfl rfl (QP.no ((pnot_sum h1).trans (by rw [hR94]; show (if _ then _ else _) = _; rw [if_pos (Or.inr h3), hR96]; rfl)) 0 e96 tk96 pp96 w96 op96)
          · rw [hR96] at hq96
            obtain ⟨w96, fl96, rfl, rfl, hw96, hp96⟩ := hq96
            show P0 _ _ _ _ (102, [some (.ref 0), some (.int x94), some (.int 0), none], [.int x96], hT g a (nI fr) (nI n) (nI (en (Bt (a 1) fr n) p96)) (kd (Bt (a 1) fr n) p96) (nI p96) w96 op 0 fl96) _
            refine P0.b GX11_not2 6 (ob := []) (cf' := (if x94 = x96 then 120 else 124, [some (.ref 0), some (.int x94), some (.int 0), some (.int x96)], [], hT g a (nI fr) (nI n) (nI (en (Bt (a 1) fr n) p96)) (kd (Bt (a 1) fr n) p96) (nI p96) w96 op 0 fl96)) rfl trivial ?_
            refine P0.if (fun h5 => ?_) (fun h5 => ?_)
            · refine P0.b GX11_not2 2 (ob := []) (cf' := (125, [some (.ref 0), some (.int x94), some (.int 0), some (.int x96)], [.int 1], hT g a (nI fr) (nI n) (nI (en (Bt (a 1) fr n) p96)) (kd (Bt (a 1) fr n) p96) (nI p96) w96 op 0 fl96)) rfl trivial ?_
              exact P0.ri (by decide +kernel) rfl rfl (QP.yes ((pnot_sum h1).trans (by rw [hR94]; show (if _ then _ else _) = _; rw [if_pos (Or.inr h3), hR96]; show Sum.inr (vBn _ _ _, _) = _; rw [h3]; simp [vBn, h5])) hw96 hp96)
            · refine P0.b GX11_not2 1 (ob := []) (cf' := (125, [some (.ref 0), some (.int x94), some (.int 0), some (.int x96)], [.int 0], hT g a (nI fr) (nI n) (nI (en (Bt (a 1) fr n) p96)) (kd (Bt (a 1) fr n) p96) (nI p96) w96 op 0 fl96)) rfl trivial ?_
              exact P0.ri (by decide +kernel) rfl rfl (QP.yes ((pnot_sum h1).trans (by rw [hR94]; show (if _ then _ else _) = _; rw [if_pos (Or.inr h3), hR96]; show Sum.inr (vBn _ _ _, _) = _; rw [h3]; simp [vBn, h5])) hw96 hp96)
      · refine P0.b GX11_not2 5 (ob := []) (cf' := (if lg_cmp w94 60 = 0 then 88 else 92, [some (.ref 0), some (.int x94), none, none], [], hT g a (nI fr) (nI n) (nI (en (Bt (a 1) fr n) p94)) (kd (Bt (a 1) fr n) p94) (nI p94) w94 op 0 fl94)) rfl trivial ?_
        rw [if_pos (show lg_cmp w94 60 = 0 from (lgc_eq _ _).mpr (sB_of (c := 60) (code := -19) (by decide +kernel) h2 hw94))]
        refine P0.b GX11_not2 4 (ob := []) (cf' := (95, [some (.ref 0), some (.int x94), some (.int 1), none], [.ref 0], hT g a (nI fr) (nI n) (nI (en (Bt (a 1) fr n) p94)) (kd (Bt (a 1) fr n) p94) (nI p94) w94 op 0 fl94)) rfl trivial ?_
        refine P0.cs (as := [.ref 0]) (rest := []) GX11_nextToken kX11_not2_95 rfl ⟨_, _, rfl, rfl, .inl ⟨_, _, _, _, rfl, rfl⟩⟩ (Nat.le_of_ble_eq_true rfl) (Nat.le_of_ble_eq_true rfl) (P0.mono (e_X11_nextToken hT0 (en (Bt (a 1) fr n) p94) (en_le hp94) _ _ _ _ _ _) (Nat.le_of_ble_eq_true rfl) (Nat.zero_le _) (Nat.zero_le _) (fun _ _ q => q)) (Nat.le_of_ble_eq_true rfl) (fun _ _ q => q.len) ?_
        rintro _ _ ⟨w97, rfl, rfl, hw97⟩
        have hp97 := nx_le (f := a 1) (fr := fr) hp94
        show P0 _ _ _ _ (98, [some (.ref 0), some (.int x94), some (.int 1), none], [], hT g a (nI fr) (nI n) (nI (en (Bt (a 1) fr n) (nx (Bt (a 1) fr n) p94))) (kd (Bt (a 1) fr n) (nx (Bt (a 1) fr n) p94)) (nI (nx (Bt (a 1) fr n) p94)) w97 op 0 fl94) _
        refine P0.b GX11_not2 1 (ob := []) (cf' := (99, [some (.ref 0), some (.int x94), some (.int 1), none], [.ref 0], hT g a (nI fr) (nI n) (nI (en (Bt (a 1) fr n) (nx (Bt (a 1) fr n) p94))) (kd (Bt (a 1) fr n) (nx (Bt (a 1) fr n) p94)) (nI (nx (Bt (a 1) fr n) p94)) w97 op 0 fl94)) rfl trivial ?_
        refine P0.cs (as := [.ref 0]) (rest := []) GX11_added2 kX11_not2_99 rfl ⟨_, _, rfl, rfl, .inl ⟨_, _, _, _, rfl, rfl⟩⟩ (Nat.le_of_ble_eq_true rfl) (Nat.le_of_ble_eq_true rfl) (P0.mono (e_X11_added2 hT0 hw97 hp97 (op := op) hop) (Nat.le_of_ble_eq_true rfl) (Nat.zero_le _) (Nat.zero_le _) (fun _ _ q => q)) (Nat.le_of_ble_eq_true rfl) (fun _ _ q => q.len) ?_
        rintro r1098 h1098 hq98
        have hq98 : QP g a fr n op (psum (sg (Bt (a 1) fr n)) (nx (Bt (a 1) fr n)) (vA g) true (lvl (sg (Bt (a 1) fr n)) (nx (Bt (a 1) fr n)) (vA g) 2 0) (lvl (sg (Bt (a 1) fr n)) (nx (Bt (a 1) fr n)) (vA g) 2 2) (nx (Bt (a 1) fr n) p94)) r1098 h1098 := hq98
        rcases hR98 : psum (sg (Bt (a 1) fr n)) (nx (Bt (a 1) fr n)) (vA g) true (lvl (sg (Bt (a 1) fr n)) (nx (Bt (a 1) fr n)) (vA g) 2 0) (lvl (sg (Bt (a 1) fr n)) (nx (Bt (a 1) fr n)) (vA g) 2 2) (nx (Bt (a 1) fr n) p94) with q98 | ⟨x98, p98⟩
        · rw [hR98] at hq98
          obtain ⟨v98, e98, tk98, pp98, w98, op98, rfl, rfl⟩ := hq98
          show P0 _ _ _ _ (102, [some (.ref 0), some (.int x94), some (.int 1), none], [.int v98], hT g a (nI fr) (nI n) e98 tk98 pp98 w98 op98 1 (nI q98)) _
          refine P0.b GX11_not2 6 (ob := []) (cf' := (if v98 ≤ x94 then 124 else 112, [some (.ref 0), some (.int x94), some (.int 1), some (.int v98)], [], hT g a (nI fr) (nI n) e98 tk98 pp98 w98 op98 1 (nI q98))) rfl trivial ?_
          refine P0.if (fun h6 => ?_) (fun h6 => ?_)
          · refine P0.b GX11_not2 1 (ob := []) (cf' := (125, [some (.ref 0), some (.int x94), some (.int 1), some (.int v98)], [.int 0], hT g a (nI fr) (nI n) e98 tk98 pp98 w98 op98 1 (nI q98))) rfl trivial ?_
            exact P0.ri (by decide +kernel) rfl rfl (QP.no ((pnot_sum h1).trans (by rw [hR94]; show (if _ then _ else _) = _; rw [if_pos (Or.inl h2), hR98]; rfl)) 0 e98 tk98 pp98 w98 op98)
          · refine P0.b GX11_not2 3 (ob := []) (cf' := (125, [some (.ref 0), some (.int x94), some (.int 1), some (.int v98)], [.int 1], hT g a (nI fr) (nI n) e98 tk98 pp98 w98 op98 1 (nI q98))) rfl trivial ?_
            exact P0.ri (by decide +kernel) rfl rfl (QP.no ((pnot_sum h1).trans (by rw [hR94]; show (if _ then _ else _) = _; rw [if_pos (Or.inl h2), hR98]; rfl)) 1 e98 tk98 pp98 w98 op98)
        · rw [hR98] at hq98
          obtain ⟨w98, fl98, rfl, rfl, hw98, hp98⟩ := hq98
          show P0 _ _ _ _ (102, [some (.ref 0), some (.int x94), some (.int 1), none], [.int x98], hT g a (nI fr) (nI n) (nI (en (Bt (a 1) fr n) p98)) (kd (Bt (a 1) fr n) p98) (nI p98) w98 op 0 fl98) _
          refine P0.b GX11_not2 6 (ob := []) (cf' := (if x98 ≤ x94 then 124 else 112, [some (.ref 0), some (.int x94), some (.int 1), some (.int x98)], [], hT g a (nI fr) (nI n) (nI (en (Bt (a 1) fr n) p98)) (kd (Bt (a 1) fr n) p98) (nI p98) w98 op 0 fl98)) rfl trivial ?_
          refine P0.if (fun h7 => ?_) (fun h7 => ?_)
          · refine P0.b GX11_not2 1 (ob := []) (cf' := (125, [some (.ref 0), some (.int x94), some (.int 1), some (.int x98)], [.int 0], hT g a (nI fr) (nI n) (nI (en (Bt (a 1) fr n) p98)) (kd (Bt (a 1) fr n) p98) (nI p98) w98 op 0 fl98)) rfl trivial ?_
            exact P0.ri (by decide +kernel) rfl rfl (QP.yes ((pnot_sum h1).trans (by rw [hR94]; show (if _ then _ else _) = _; rw [if_pos (Or.inl h2), hR98]; show Sum.inr (vBn _ _ _, _) = _; rw [h2]; simp [vBn, h7])) hw98 hp98)
          · refine P0.b GX11_not2 3 (ob := []) (cf' := (125, [some (.ref 0), some (.int x94), some (.int 1), some (.int x98)], [.int 1], hT g a (nI fr) (nI n) (nI (en (Bt (a 1) fr n) p98)) (kd (Bt (a 1) fr n) p98) (nI p98) w98 op 0 fl98)) rfl trivial ?_
            exact P0.ri (by decide +kernel) rfl rfl (QP.yes ((pnot_sum h1).trans (by rw [hR94]; show (if _ then _ else _) = _; rw [if_pos (Or.inl h2), hR98]; show Sum.inr (vBn _ _ _, _) = _; rw [h2]; simp [vBn, h7])) hw98 hp98)
  · refine P0.b GX11_not2 1 (ob := []) (cf' := (19, [some (.ref 0), none, none, none], [.ref 0], hT g a (nI fr) (nI n) (nI (en (Bt (a 1) fr n) p)) (kd (Bt (a 1) fr n) p) (nI p) w op 0 fl)) rfl trivial ?_
    refine P0.cs (as := [.ref 0]) (rest := []) GX11_opens kX11_not2_19 rfl ⟨_, _, rfl, rfl, .inl ⟨_, _, _, _, rfl, rfl⟩⟩ (Nat.le_of_ble_eq_true rfl) (Nat.le_of_ble_eq_true rfl) (P0.mono (e_opens_yes hT0 hp (op := op) (by rw [hop]; decide)) (Nat.le_of_ble_eq_true rfl) (Nat.zero_le _) (Nat.zero_le _) (fun _ _ q => q)) (Nat.le_of_ble_eq_true rfl) (fun _ _ q => by obtain ⟨_, _, rfl, _⟩ := q; exact hT_len.trans hT_len.symm) ?_
    rintro _ _ ⟨w99, rfl, rfl, hw99⟩
    have hp99 := nx_le (f := a 1) (fr := fr) hp
    show P0 _ _ _ _ (22, [some (.ref 0), none, none, none], [.int 1], hT g a (nI fr) (nI n) (nI (en (Bt (a 1) fr n) (nx (Bt (a 1) fr n) p))) (kd (Bt (a 1) fr n) (nx (Bt (a 1) fr n) p)) (nI (nx (Bt (a 1) fr n) p)) w99 (op + 1) 0 fl) _
    refine P0.b GX11_not2 2 (ob := []) (cf' := (28, [some (.ref 0), none, none, none], [.ref 0], hT g a (nI fr) (nI n) (nI (en (Bt (a 1) fr n) (nx (Bt (a 1) fr n) p))) (kd (Bt (a 1) fr n) (nx (Bt (a 1) fr n) p)) (nI (nx (Bt (a 1) fr n) p)) w99 (op + 1) 0 fl)) rfl trivial ?_
    refine P0.cs (as := [.ref 0]) (rest := []) GX11_not3 kX11_not2_28 rfl ⟨_, _, rfl, rfl, .inl ⟨_, _, _, _, rfl, rfl⟩⟩ (Nat.le_of_ble_eq_true rfl) (Nat.le_of_ble_eq_true rfl) (P0.mono (e_X11_not3 hT0 hw99 hp99 (op := op + 1) (by rw [hop]; decide)) (Nat.le_of_ble_eq_true rfl) (Nat.zero_le _) (Nat.zero_le _) (fun _ _ q => q)) (Nat.le_of_ble_eq_true rfl) (fun _ _ q => q.len) ?_
    rintro r1100 h1100 hq100
    have hq100 : QP g a fr n (op + 1) (lvl (sg (Bt (a 1) fr n)) (nx (Bt (a 1) fr n)) (vA g) 2 1 (nx (Bt (a 1) fr n) p)) r1100 h1100 := hq100
    rcases hR100 : lvl (sg (Bt (a 1) fr n)) (nx (Bt (a 1) fr n)) (vA g) 2 1 (nx (Bt (a 1) fr n) p) with q100 | ⟨x100, p100⟩
    · rw [hR100] at hq100
      obtain ⟨v100, e100, tk100, pp100, w100, op100, rfl, rfl⟩ := hq100
      show P0 _ _ _ _ (31, [some (.ref 0), none, none, none], [.int v100], hT g a (nI fr) (nI n) e100 tk100 pp100 w100 op100 1 (nI q100)) _
      refine P0.b GX11_not2 9 (ob := []) (cf' := (if v100 = 0 then 46 else 50, [some (.ref 0), some (.int v100), none, none], [], hT g a (nI fr) (nI n) e100 tk100 pp100 w100 (op100 - 1) 1 (nI q100))) rfl trivial ?_
      refine P0.if (fun h8 => ?_) (fun h8 => ?_)
      · refine P0.b GX11_not2 2 (ob := []) (cf' := (51, [some (.ref 0), some (.int v100), none, none], [.int 1], hT g a (nI fr) (nI n) e100 tk100 pp100 w100 (op100 - 1) 1 (nI q100))) rfl trivial ?_
        exact P0.ri (by decide +kernel) rfl rfl (QP.no (pnot_not_no h1 hR100) 1 e100 tk100 pp100 w100 (op100 - 1))
      · refine P0.b GX11_not2 1 (ob := []) (cf' := (51, [some (.ref 0), some (.int v100), none, none], [.int 0], hT g a (nI fr) (nI n) e100 tk100 pp100 w100 (op100 - 1) 1 (nI q100))) rfl trivial ?_
        exact P0.ri (by decide +kernel) rfl rfl (QP.no (pnot_not_no h1 hR100) 0 e100 tk100 pp100 w100 (op100 - 1))
    · rw [hR100] at hq100
      obtain ⟨w100, fl100, rfl, rfl, hw100, hp100⟩ := hq100
      show P0 _ _ _ _ (31, [some (.ref 0), none, none, none], [.int x100], hT g a (nI fr) (nI n) (nI (en (Bt (a 1) fr n) p100)) (kd (Bt (a 1) fr n) p100) (nI p100) w100 (op + 1) 0 fl100) _
      refine P0.b GX11_not2 9 (ob := []) (cf' := (if x100 = 0 then 46 else 50, [some (.ref 0), some (.int x100), none, none], [], hT g a (nI fr) (nI n) (nI (en (Bt (a 1) fr n) p100)) (kd (Bt (a 1) fr n) p100) (nI p100) w100 ((op + 1) - 1) 0 fl100)) rfl trivial ?_
      rw [show (op + 1) - 1 = op from by rw [hop]; decide]
      refine P0.if (fun h9 => ?_) (fun h9 => ?_)
      · refine P0.b GX11_not2 2 (ob := []) (cf' := (51, [some (.ref 0), some (.int x100), none, none], [.int 1], hT g a (nI fr) (nI n) (nI (en (Bt (a 1) fr n) p100)) (kd (Bt (a 1) fr n) p100) (nI p100) w100 op 0 fl100)) rfl trivial ?_
        exact P0.ri (by decide +kernel) rfl rfl (QP.yes (pnot_not_yes h1 hR100 (by simp [vA, vUn, h9])) hw100 hp100)
      · refine P0.b GX11_not2 1 (ob := []) (cf' := (51, [some (.ref 0), some (.int x100), none, none], [.int 0], hT g a (nI fr) (nI n) (nI (en (Bt (a 1) fr n) p100)) (kd (Bt (a 1) fr n) p100) (nI p100) w100 op 0 fl100)) rfl trivial ?_
        exact P0.ri (by decide +kernel) rfl rfl (QP.yes (pnot_not_yes h1 hR100 (by simp [vA, vUn, h9])) hw100 hp100)
set_option maxHeartbeats 2000000 in
theorem lp_X11_both2 {g : Nat → Int32} {a : Nat → Nat → Int32} {fr n : Nat} (hT0 : TxOK a fr n) {op : Int32} (hop : op = 2) : ∀ (f : Nat) (x : Int32) (p : Nat) (w : Int64) (fl : Int32), wOK (Bt (a 1) fr n) p w → p ≤ n → n ≤ p + f → P0 26 0 0 mX11_both2 (5, [some (.ref 0), some (.int x), none], [], hT g a (nI fr) (nI n) (nI (en (Bt (a 1) fr n) p)) (kd (Bt (a 1) fr n) p) (nI p) w op 0 fl) (QP g a fr n op (pch (sg (Bt (a 1) fr n)) (nx (Bt (a 1) fr n)) (vA g).2.2 jBoth (pnot (sg (Bt (a 1) fr n)) (nx (Bt (a 1) fr n)) (vA g) true (lvl (sg (Bt (a 1) fr n)) (nx (Bt (a 1) fr n)) (vA g) 2 0) (lvl (sg (Bt (a 1) fr n)) (nx (Bt (a 1) fr n)) (vA g) 2 1) (lvl (sg (Bt (a 1) fr n)) (nx (Bt (a 1) fr n)) (vA g) 2 2)) f x p))
  | 0, x, p, w, fl, hw, hp, hpf => by
    refine P0.b GX11_both2 9 (ob := []) (cf' := (17, [some (.ref 0), some (.int x), none], [.int 0, .int 0, .int 0, .int 0, .int 0, .int 100, .int 110, .int 97, .ref 0], hT g a (nI fr) (nI n) (nI (en (Bt (a 1) fr n) p)) (kd (Bt (a 1) fr n) p) (nI p) w op 0 fl)) rfl trivial ?_
    refine P0.cd (d0 := 2) (as := [.ref 0, .int 97, .int 110, .int 100, .int 0, .int 0, .int 0, .int 0, .int 0]) (rest := []) (r1 := some (.int (if sg (Bt (a 1) fr n) p = (-11) then 1 else 0))) (h1 := hT g a (nI fr) (nI n) (nI (en (Bt (a 1) fr n) p)) (kd (Bt (a 1) fr n) p) (nI p) w op 0 fl) (st' := [.int (if sg (Bt (a 1) fr n) p = (-11) then 1 else 0)]) GX11_isWord kX11_both2_17 rfl ⟨_, _, rfl, rfl, .inl ⟨_, _, _, _, rfl, rfl⟩⟩ (Nat.le_of_ble_eq_true rfl) (Nat.le_of_ble_eq_true rfl) (e_isWord_ok hT0 hp (cs := [97, 110, 100]) (code := (-11)) (by decide +kernel) (by decide) (by decide)) (Nat.le_of_ble_eq_true rfl) rfl (Nat.le_of_ble_eq_true rfl) rfl ?_
    refine P0.b GX11_both2 1 (ob := []) (cf' := (if (if sg (Bt (a 1) fr n) p = (-11) then 1 else 0) = 0 then 49 else 23, [some (.ref 0), some (.int x), none], [], hT g a (nI fr) (nI n) (nI (en (Bt (a 1) fr n) p)) (kd (Bt (a 1) fr n) p) (nI p) w op 0 fl)) rfl trivial ?_
    rw [if_neg (show ¬ (sg (Bt (a 1) fr n) p = (-11)) from by rw [sg_end hpf]; decide), if_pos rfl]
    refine P0.b GX11_both2 1 (ob := []) (cf' := (50, [some (.ref 0), some (.int x), none], [.int x], hT g a (nI fr) (nI n) (nI (en (Bt (a 1) fr n) p)) (kd (Bt (a 1) fr n) p) (nI p) w op 0 fl)) rfl trivial ?_
    exact P0.ri (by decide +kernel) rfl rfl (QP.yes rfl hw hp)
  | f + 1, x, p, w, fl, hw, hp, hpf => by
    refine P0.b GX11_both2 9 (ob := []) (cf' := (17, [some (.ref 0), some (.int x), none], [.int 0, .int 0, .int 0, .int 0, .int 0, .int 100, .int 110, .int 97, .ref 0], hT g a (nI fr) (nI n) (nI (en (Bt (a 1) fr n) p)) (kd (Bt (a 1) fr n) p) (nI p) w op 0 fl)) rfl trivial ?_
    refine P0.cd (d0 := 2) (as := [.ref 0, .int 97, .int 110, .int 100, .int 0, .int 0, .int 0, .int 0, .int 0]) (rest := []) (r1 := some (.int (if sg (Bt (a 1) fr n) p = (-11) then 1 else 0))) (h1 := hT g a (nI fr) (nI n) (nI (en (Bt (a 1) fr n) p)) (kd (Bt (a 1) fr n) p) (nI p) w op 0 fl) (st' := [.int (if sg (Bt (a 1) fr n) p = (-11) then 1 else 0)]) GX11_isWord kX11_both2_17 rfl ⟨_, _, rfl, rfl, .inl ⟨_, _, _, _, rfl, rfl⟩⟩ (Nat.le_of_ble_eq_true rfl) (Nat.le_of_ble_eq_true rfl) (e_isWord_ok hT0 hp (cs := [97, 110, 100]) (code := (-11)) (by decide +kernel) (by decide) (by decide)) (Nat.le_of_ble_eq_true rfl) rfl (Nat.le_of_ble_eq_true rfl) rfl ?_
    refine P0.b GX11_both2 1 (ob := []) (cf' := (if (if sg (Bt (a 1) fr n) p = (-11) then 1 else 0) = 0 then 49 else 23, [some (.ref 0), some (.int x), none], [], hT g a (nI fr) (nI n) (nI (en (Bt (a 1) fr n) p)) (kd (Bt (a 1) fr n) p) (nI p) w op 0 fl)) rfl trivial ?_
    refine P0.ifB (fun h1 => ?_) (fun h1 => ?_)
    · refine P0.b GX11_both2 1 (ob := []) (cf' := (50, [some (.ref 0), some (.int x), none], [.int x], hT g a (nI fr) (nI n) (nI (en (Bt (a 1) fr n) p)) (kd (Bt (a 1) fr n) p) (nI p) w op 0 fl)) rfl trivial ?_
      exact P0.ri (by decide +kernel) rfl rfl (QP.yes (pch_stop (show jBoth (sg (Bt (a 1) fr n) p) = false from by simp only [jBoth]; exact decide_eq_false h1)) hw hp)
    · refine P0.b GX11_both2 1 (ob := []) (cf' := (24, [some (.ref 0), some (.int x), none], [.ref 0], hT g a (nI fr) (nI n) (nI (en (Bt (a 1) fr n) p)) (kd (Bt (a 1) fr n) p) (nI p) w op 0 fl)) rfl trivial ?_
      refine P0.cs (as := [.ref 0]) (rest := []) GX11_nextToken kX11_both2_24 rfl ⟨_, _, rfl, rfl, .inl ⟨_, _, _, _, rfl, rfl⟩⟩ (Nat.le_of_ble_eq_true rfl) (Nat.le_of_ble_eq_true rfl) (P0.mono (e_X11_nextToken hT0 (en (Bt (a 1) fr n) p) (en_le hp) _ _ _ _ _ _) (Nat.le_of_ble_eq_true rfl) (Nat.zero_le _) (Nat.zero_le _) (fun _ _ q => q)) (Nat.le_of_ble_eq_true rfl) (fun _ _ q => q.len) ?_
      rintro _ _ ⟨w101, rfl, rfl, hw101⟩
      have hp101 := nx_le (f := a 1) (fr := fr) hp
      show P0 _ _ _ _ (27, [some (.ref 0), some (.int x), none], [], hT g a (nI fr) (nI n) (nI (en (Bt (a 1) fr n) (nx (Bt (a 1) fr n) p))) (kd (Bt (a 1) fr n) (nx (Bt (a 1) fr n) p)) (nI (nx (Bt (a 1) fr n) p)) w101 op 0 fl) _
      refine P0.b GX11_both2 1 (ob := []) (cf' := (28, [some (.ref 0), some (.int x), none], [.ref 0], hT g a (nI fr) (nI n) (nI (en (Bt (a 1) fr n) (nx (Bt (a 1) fr n) p))) (kd (Bt (a 1) fr n) (nx (Bt (a 1) fr n) p)) (nI (nx (Bt (a 1) fr n) p)) w101 op 0 fl)) rfl trivial ?_
      refine P0.cs (as := [.ref 0]) (rest := []) GX11_not2 kX11_both2_28 rfl ⟨_, _, rfl, rfl, .inl ⟨_, _, _, _, rfl, rfl⟩⟩ (Nat.le_of_ble_eq_true rfl) (Nat.le_of_ble_eq_true rfl) (P0.mono (e_X11_not2 hT0 hw101 hp101 (op := op) hop) (Nat.le_of_ble_eq_true rfl) (Nat.zero_le _) (Nat.zero_le _) (fun _ _ q => q)) (Nat.le_of_ble_eq_true rfl) (fun _ _ q => q.len) ?_
      rintro r1102 h1102 hq102
      have hq102 : QP g a fr n op (pnot (sg (Bt (a 1) fr n)) (nx (Bt (a 1) fr n)) (vA g) true (lvl (sg (Bt (a 1) fr n)) (nx (Bt (a 1) fr n)) (vA g) 2 0) (lvl (sg (Bt (a 1) fr n)) (nx (Bt (a 1) fr n)) (vA g) 2 1) (lvl (sg (Bt (a 1) fr n)) (nx (Bt (a 1) fr n)) (vA g) 2 2) (nx (Bt (a 1) fr n) p)) r1102 h1102 := hq102
      rcases hR102 : pnot (sg (Bt (a 1) fr n)) (nx (Bt (a 1) fr n)) (vA g) true (lvl (sg (Bt (a 1) fr n)) (nx (Bt (a 1) fr n)) (vA g) 2 0) (lvl (sg (Bt (a 1) fr n)) (nx (Bt (a 1) fr n)) (vA g) 2 1) (lvl (sg (Bt (a 1) fr n)) (nx (Bt (a 1) fr n)) (vA g) 2 2) (nx (Bt (a 1) fr n) p) with q102 | ⟨x102, p102⟩
      · rw [hR102] at hq102
        obtain ⟨v102, e102, tk102, pp102, w102, op102, rfl, rfl⟩ := hq102
        show P0 _ _ _ _ (31, [some (.ref 0), some (.int x), none], [.int v102], hT g a (nI fr) (nI n) e102 tk102 pp102 w102 op102 1 (nI q102)) _
        refine P0.b GX11_both2 3 (ob := []) (cf' := (if x = 0 then 44 else 36, [some (.ref 0), some (.int x), some (.int v102)], [], hT g a (nI fr) (nI n) e102 tk102 pp102 w102 op102 1 (nI q102))) rfl trivial ?_
        refine P0.if (fun h2 => ?_) (fun h2 => ?_)
        · refine P0.b GX11_both2 3 (ob := []) (cf' := (5, [some (.ref 0), some (.int 0), some (.int v102)], [], hT g a (nI fr) (nI n) e102 tk102 pp102 w102 op102 1 (nI q102))) rfl trivial ?_
          refine P0.b GX11_both2 9 (ob := []) (cf' := (17, [some (.ref 0), some (.int 0), some (.int v102)], [.int 0, .int 0, .int 0, .int 0, .int 0, .int 100, .int 110, .int 97, .ref 0], hT g a (nI fr) (nI n) e102 tk102 pp102 w102 op102 1 (nI q102))) rfl trivial ?_
          refine P0.cd (d0 := 2) (as := [.ref 0, .int 97, .int 110, .int 100, .int 0, .int 0, .int 0, .int 0, .int 0]) (rest := []) (r1 := some (.int 0)) (h1 := hT g a (nI fr) (nI n) e102 tk102 pp102 w102 op102 1 (nI q102)) (st' := [.int 0]) GX11_isWord kX11_both2_17 rfl ⟨_, _, rfl, rfl, .inl ⟨_, _, _, _, rfl, rfl⟩⟩ (Nat.le_of_ble_eq_true rfl) (Nat.le_of_ble_eq_true rfl) (e_isWord_bad (c0 := 97) (c1 := 110) (c2 := 100) (c3 := 0) (c4 := 0) (c5 := 0) (c6 := 0) (c7 := 0)) (Nat.le_of_ble_eq_true rfl) rfl (Nat.le_of_ble_eq_true rfl) rfl ?_
          refine P0.b GX11_both2 2 (ob := []) (cf' := (50, [some (.ref 0), some (.int 0), some (.int v102)], [.int 0], hT g a (nI fr) (nI n) e102 tk102 pp102 w102 op102 1 (nI q102))) rfl trivial ?_
          exact P0.ri (by decide +kernel) rfl rfl (QP.no (pch_fail (show jBoth (sg (Bt (a 1) fr n) p) = true from by rw [h1]; decide) hR102) 0 e102 tk102 pp102 w102 op102)
        · refine P0.b GX11_both2 2 (ob := []) (cf' := (if v102 = 0 then 44 else 40, [some (.ref 0), some (.int x), some (.int v102)], [], hT g a (nI fr) (nI n) e102 tk102 pp102 w102 op102 1 (nI q102))) rfl trivial ?_
          refine P0.if (fun h3 => ?_) (fun h3 => ?_)
          · refine P0.b GX11_both2 3 (ob := []) (cf' := (5, [some (.ref 0), some (.int 0), some (.int v102)], [], hT g a (nI fr) (nI n) e102 tk102 pp102 w102 op102 1 (nI q102))) rfl trivial ?_
            refine P0.b GX11_both2 9 (ob := []) (cf' := (17, [some (.ref 0), some (.int 0), some (.int v102)], [.int 0, .int 0, .int 0, .int 0, .int 0, .int 100, .int 110, .int 97, .ref 0], hT g a (nI fr) (nI n) e102 tk102 pp102 w102 op102 1 (nI q102))) rfl trivial ?_
            refine P0.cd (d0 := 2) (as := [.ref 0, .int 97, .int 110, .int 100, .int 0, .int 0, .int 0, .int 0, .int 0]) (rest := []) (r1 := some (.int 0)) (h1 := hT g a (nI fr) (nI n) e102 tk102 pp102 w102 op102 1 (nI q102)) (st' := [.int 0]) GX11_isWord kX11_both2_17 rfl ⟨_, _, rfl, rfl, .inl ⟨_, _, _, _, rfl, rfl⟩⟩ (Nat.le_of_ble_eq_true rfl) (Nat.le_of_ble_eq_true rfl) (e_isWord_bad (c0 := 97) (c1 := 110) (c2 := 100) (c3 := 0) (c4 := 0) (c5 := 0) (c6 := 0) (c7 := 0)) (Nat.le_of_ble_eq_true rfl) rfl (Nat.le_of_ble_eq_true rfl) rfl ?_
            refine P0.b GX11_both2 2 (ob := []) (cf' := (50, [some (.ref 0), some (.int 0), some (.int v102)], [.int 0], hT g a (nI fr) (nI n) e102 tk102 pp102 w102 op102 1 (nI q102))) rfl trivial ?_
            exact P0.ri (by decide +kernel) rfl rfl (QP.no (pch_fail (show jBoth (sg (Bt (a 1) fr n) p) = true from by rw [h1]; decide) hR102) 0 e102 tk102 pp102 w102 op102)
          · refine P0.b GX11_both2 4 (ob := []) (cf' := (5, [some (.ref 0), some (.int 1), some (.int v102)], [], hT g a (nI fr) (nI n) e102 tk102 pp102 w102 op102 1 (nI q102))) rfl trivial ?_
            refine P0.b GX11_both2 9 (ob := []) (cf' := (17, [some (.ref 0), some (.int 1), some (.int v102)], [.int 0, .int 0, .int 0, .int 0, .int 0, .int 100, .int 110, .int 97, .ref 0], hT g a (nI fr) (nI n) e102 tk102 pp102 w102 op102 1 (nI q102))) rfl trivial ?_
            refine P0.cd (d0 := 2) (as := [.ref 0, .int 97, .int 110, .int 100, .int 0, .int 0, .int 0, .int 0, .int 0]) (rest := []) (r1 := some (.int 0)) (h1 := hT g a (nI fr) (nI n) e102 tk102 pp102 w102 op102 1 (nI q102)) (st' := [.int 0]) GX11_isWord kX11_both2_17 rfl ⟨_, _, rfl, rfl, .inl ⟨_, _, _, _, rfl, rfl⟩⟩ (Nat.le_of_ble_eq_true rfl) (Nat.le_of_ble_eq_true rfl) (e_isWord_bad (c0 := 97) (c1 := 110) (c2 := 100) (c3 := 0) (c4 := 0) (c5 := 0) (c6 := 0) (c7 := 0)) (Nat.le_of_ble_eq_true rfl) rfl (Nat.le_of_ble_eq_true rfl) rfl ?_
            refine P0.b GX11_both2 2 (ob := []) (cf' := (50, [some (.ref 0), some (.int 1), some (.int v102)], [.int 1], hT g a (nI fr) (nI n) e102 tk102 pp102 w102 op102 1 (nI q102))) rfl trivial ?_
            exact P0.ri (by decide +kernel) rfl rfl (QP.no (pch_fail (show jBoth (sg (Bt (a 1) fr n) p) = true from by rw [h1]; decide) hR102) 1 e102 tk102 pp102 w102 op102)
      · rw [hR102] at hq102
        obtain ⟨w102, fl102, rfl, rfl, hw102, hp102⟩ := hq102
        show P0 _ _ _ _ (31, [some (.ref 0), some (.int x), none], [.int x102], hT g a (nI fr) (nI n) (nI (en (Bt (a 1) fr n) p102)) (kd (Bt (a 1) fr n) p102) (nI p102) w102 op 0 fl102) _
        refine P0.b GX11_both2 3 (ob := []) (cf' := (if x = 0 then 44 else 36, [some (.ref 0), some (.int x), some (.int x102)], [], hT g a (nI fr) (nI n) (nI (en (Bt (a 1) fr n) p102)) (kd (Bt (a 1) fr n) p102) (nI p102) w102 op 0 fl102)) rfl trivial ?_
        refine P0.if (fun h4 => ?_) (fun h4 => ?_)
        · refine P0.b GX11_both2 3 (ob := []) (cf' := (5, [some (.ref 0), some (.int 0), some (.int x102)], [], hT g a (nI fr) (nI n) (nI (en (Bt (a 1) fr n) p102)) (kd (Bt (a 1) fr n) p102) (nI p102) w102 op 0 fl102)) rfl trivial ?_
          rw [pch_step (show jBoth (sg (Bt (a 1) fr n) p) = true from by rw [h1]; decide) hR102, show (vA g).2.2 (sg (Bt (a 1) fr n) p) x x102 = (0 : Int32) from by rw [h1]; simp [vA, vBn, h4]]
          refine P0.forget (ls' := [some (.ref 0), some (.int 0), none]) ⟨.inr rfl, .inr rfl, .inl rfl, trivial⟩ ?_
          exact lp_X11_both2 hT0 hop f _ _ _ _ hw102 hp102 (by have h1 := nx_lt (B := (Bt (a 1) fr n)) (p := p) (by rw [h1]; decide) (by rw [h1]; decide); have h2 := (prog_not' nx_lt (prog_lvl nx_lt (vA g) 2 0) (prog_lvl nx_lt (vA g) 2 1) (prog_lvl nx_lt (vA g) 2 2)) _ _ _ hR102; omega)
        · refine P0.b GX11_both2 2 (ob := []) (cf' := (if x102 = 0 then 44 else 40, [some (.ref 0), some (.int x), some (.int x102)], [], hT g a (nI fr) (nI n) (nI (en (Bt (a 1) fr n) p102)) (kd (Bt (a 1) fr n) p102) (nI p102) w102 op 0 fl102)) rfl trivial ?_
          refine P0.if (fun h5 => ?_) (fun h5 => ?_)
          · refine P0.b GX11_both2 3 (ob := []) (cf' := (5, [some (.ref 0), some (.int 0), some (.int x102)], [], hT g a (nI fr) (nI n) (nI (en (Bt (a 1) fr n) p102)) (kd (Bt (a 1) fr n) p102) (nI p102) w102 op 0 fl102)) rfl trivial ?_
            rw [pch_step (show jBoth (sg (Bt (a 1) fr n) p) = true from by rw [h1]; decide) hR102, show (vA g).2.2 (sg (Bt (a 1) fr n) p) x x102 = (0 : Int32) from by rw [h1]; simp [vA, vBn, h4, h5]]
            refine P0.forget (ls' := [some (.ref 0), some (.int 0), none]) ⟨.inr rfl, .inr rfl, .inl rfl, trivial⟩ ?_
            exact lp_X11_both2 hT0 hop f _ _ _ _ hw102 hp102 (by have h1 := nx_lt (B := (Bt (a 1) fr n)) (p := p) (by rw [h1]; decide) (by rw [h1]; decide); have h2 := (prog_not' nx_lt (prog_lvl nx_lt (vA g) 2 0) (prog_lvl nx_lt (vA g) 2 1) (prog_lvl nx_lt (vA g) 2 2)) _ _ _ hR102; omega)
          · refine P0.b GX11_both2 4 (ob := []) (cf' := (5, [some (.ref 0), some (.int 1), some (.int x102)], [], hT g a (nI fr) (nI n) (nI (en (Bt (a 1) fr n) p102)) (kd (Bt (a 1) fr n) p102) (nI p102) w102 op 0 fl102)) rfl trivial ?_
            rw [pch_step (show jBoth (sg (Bt (a 1) fr n) p) = true from by rw [h1]; decide) hR102, show (vA g).2.2 (sg (Bt (a 1) fr n) p) x x102 = (1 : Int32) from by rw [h1]; simp [vA, vBn, h4, h5]]
            refine P0.forget (ls' := [some (.ref 0), some (.int 1), none]) ⟨.inr rfl, .inr rfl, .inl rfl, trivial⟩ ?_
            exact lp_X11_both2 hT0 hop f _ _ _ _ hw102 hp102 (by have h1 := nx_lt (B := (Bt (a 1) fr n)) (p := p) (by rw [h1]; decide) (by rw [h1]; decide); have h2 := (prog_not' nx_lt (prog_lvl nx_lt (vA g) 2 0) (prog_lvl nx_lt (vA g) 2 1) (prog_lvl nx_lt (vA g) 2 2)) _ _ _ hR102; omega)
set_option maxHeartbeats 2000000 in
theorem e_X11_both2 {g : Nat → Int32} {a : Nat → Nat → Int32} {fr n : Nat} (hT0 : TxOK a fr n) {p : Nat} {w : Int64} {fl : Int32} (hw : wOK (Bt (a 1) fr n) p w) (hp : p ≤ n) {op : Int32} (hop : op = 2) : P0 26 0 0 mX11_both2 (0, ent 3 [.ref 0], [], hT g a (nI fr) (nI n) (nI (en (Bt (a 1) fr n) p)) (kd (Bt (a 1) fr n) p) (nI p) w op 0 fl) (QP g a fr n op (pboth (sg (Bt (a 1) fr n)) (nx (Bt (a 1) fr n)) (vA g) true (lvl (sg (Bt (a 1) fr n)) (nx (Bt (a 1) fr n)) (vA g) 2 0) (lvl (sg (Bt (a 1) fr n)) (nx (Bt (a 1) fr n)) (vA g) 2 1) (lvl (sg (Bt (a 1) fr n)) (nx (Bt (a 1) fr n)) (vA g) 2 2) p)) := by
  show P0 _ _ _ _ _ (QP g a fr n op (pc0 (sg (Bt (a 1) fr n)) (nx (Bt (a 1) fr n)) (vA g).2.2 jBoth (pnot (sg (Bt (a 1) fr n)) (nx (Bt (a 1) fr n)) (vA g) true (lvl (sg (Bt (a 1) fr n)) (nx (Bt (a 1) fr n)) (vA g) 2 0) (lvl (sg (Bt (a 1) fr n)) (nx (Bt (a 1) fr n)) (vA g) 2 1) (lvl (sg (Bt (a 1) fr n)) (nx (Bt (a 1) fr n)) (vA g) 2 2)) p))
  refine P0.b GX11_both2 1 (ob := []) (cf' := (1, [some (.ref 0), none, none], [.ref 0], hT g a (nI fr) (nI n) (nI (en (Bt (a 1) fr n) p)) (kd (Bt (a 1) fr n) p) (nI p) w op 0 fl)) rfl trivial ?_
  refine P0.cs (as := [.ref 0]) (rest := []) GX11_not2 kX11_both2_1 rfl ⟨_, _, rfl, rfl, .inl ⟨_, _, _, _, rfl, rfl⟩⟩ (Nat.le_of_ble_eq_true rfl) (Nat.le_of_ble_eq_true rfl) (P0.mono (e_X11_not2 hT0 hw hp (op := op) hop) (Nat.le_of_ble_eq_true rfl) (Nat.zero_le _) (Nat.zero_le _) (fun _ _ q => q)) (Nat.le_of_ble_eq_true rfl) (fun _ _ q => q.len) ?_
  rintro r1103 h1103 hq103
  have hq103 : QP g a fr n op (pnot (sg (Bt (a 1) fr n)) (nx (Bt (a 1) fr n)) (vA g) true (lvl (sg (Bt (a 1) fr n)) (nx (Bt (a 1) fr n)) (vA g) 2 0) (lvl (sg (Bt (a 1) fr n)) (nx (Bt (a 1) fr n)) (vA g) 2 1) (lvl (sg (Bt (a 1) fr n)) (nx (Bt (a 1) fr n)) (vA g) 2 2) p) r1103 h1103 := hq103
  rcases hR103 : pnot (sg (Bt (a 1) fr n)) (nx (Bt (a 1) fr n)) (vA g) true (lvl (sg (Bt (a 1) fr n)) (nx (Bt (a 1) fr n)) (vA g) 2 0) (lvl (sg (Bt (a 1) fr n)) (nx (Bt (a 1) fr n)) (vA g) 2 1) (lvl (sg (Bt (a 1) fr n)) (nx (Bt (a 1) fr n)) (vA g) 2 2) p with q103 | ⟨x103, p103⟩
  · rw [hR103] at hq103
    obtain ⟨v103, e103, tk103, pp103, w103, op103, rfl, rfl⟩ := hq103
    show P0 _ _ _ _ (4, [some (.ref 0), none, none], [.int v103], hT g a (nI fr) (nI n) e103 tk103 pp103 w103 op103 1 (nI q103)) _
    refine P0.b GX11_both2 1 (ob := []) (cf' := (5, [some (.ref 0), some (.int v103), none], [], hT g a (nI fr) (nI n) e103 tk103 pp103 w103 op103 1 (nI q103))) rfl trivial ?_
    refine P0.b GX11_both2 9 (ob := []) (cf' := (17, [some (.ref 0), some (.int v103), none], [.int 0, .int 0, .int 0, .int 0, .int 0, .int 100, .int 110, .int 97, .ref 0], hT g a (nI fr) (nI n) e103 tk103 pp103 w103 op103 1 (nI q103))) rfl trivial ?_
    refine P0.cd (d0 := 2) (as := [.ref 0, .int 97, .int 110, .int 100, .int 0, .int 0, .int 0, .int 0, .int 0]) (rest := []) (r1 := some (.int 0)) (h1 := hT g a (nI fr) (nI n) e103 tk103 pp103 w103 op103 1 (nI q103)) (st' := [.int 0]) GX11_isWord kX11_both2_17 rfl ⟨_, _, rfl, rfl, .inl ⟨_, _, _, _, rfl, rfl⟩⟩ (Nat.le_of_ble_eq_true rfl) (Nat.le_of_ble_eq_true rfl) (e_isWord_bad (c0 := 97) (c1 := 110) (c2 := 100) (c3 := 0) (c4 := 0) (c5 := 0) (c6 := 0) (c7 := 0)) (Nat.le_of_ble_eq_true rfl) rfl (Nat.le_of_ble_eq_true rfl) rfl ?_
    refine P0.b GX11_both2 2 (ob := []) (cf' := (50, [some (.ref 0), some (.int v103), none], [.int v103], hT g a (nI fr) (nI n) e103 tk103 pp103 w103 op103 1 (nI q103))) rfl trivial ?_
    exact P0.ri (by decide +kernel) rfl rfl (QP.no (pc0_no hR103) v103 e103 tk103 pp103 w103 op103)
  · rw [hR103] at hq103
    obtain ⟨w103, fl103, rfl, rfl, hw103, hp103⟩ := hq103
    show P0 _ _ _ _ (4, [some (.ref 0), none, none], [.int x103], hT g a (nI fr) (nI n) (nI (en (Bt (a 1) fr n) p103)) (kd (Bt (a 1) fr n) p103) (nI p103) w103 op 0 fl103) _
    refine P0.b GX11_both2 1 (ob := []) (cf' := (5, [some (.ref 0), some (.int x103), none], [], hT g a (nI fr) (nI n) (nI (en (Bt (a 1) fr n) p103)) (kd (Bt (a 1) fr n) p103) (nI p103) w103 op 0 fl103)) rfl trivial ?_
    rw [pc0_yes hR103]
    exact lp_X11_both2 hT0 hop 200 _ _ _ _ hw103 hp103 (by have := hT0.2.1; omega)
set_option maxHeartbeats 2000000 in
theorem lp_X11_either2 {g : Nat → Int32} {a : Nat → Nat → Int32} {fr n : Nat} (hT0 : TxOK a fr n) {op : Int32} (hop : op = 2) : ∀ (f : Nat) (x : Int32) (p : Nat) (w : Int64) (fl : Int32), wOK (Bt (a 1) fr n) p w → p ≤ n → n ≤ p + f → P0 27 0 0 mX11_either2 (5, [some (.ref 0), some (.int x), none], [], hT g a (nI fr) (nI n) (nI (en (Bt (a 1) fr n) p)) (kd (Bt (a 1) fr n) p) (nI p) w op 0 fl) (QP g a fr n op (pch (sg (Bt (a 1) fr n)) (nx (Bt (a 1) fr n)) (vA g).2.2 jEith (pboth (sg (Bt (a 1) fr n)) (nx (Bt (a 1) fr n)) (vA g) true (lvl (sg (Bt (a 1) fr n)) (nx (Bt (a 1) fr n)) (vA g) 2 0) (lvl (sg (Bt (a 1) fr n)) (nx (Bt (a 1) fr n)) (vA g) 2 1) (lvl (sg (Bt (a 1) fr n)) (nx (Bt (a 1) fr n)) (vA g) 2 2)) f x p))
  | 0, x, p, w, fl, hw, hp, hpf => by
    refine P0.b GX11_either2 9 (ob := []) (cf' := (16, [some (.ref 0), some (.int x), none], [.int 0, .int 0, .int 0, .int 0, .int 0, .int 0, .int 114, .int 111, .ref 0], hT g a (nI fr) (nI n) (nI (en (Bt (a 1) fr n) p)) (kd (Bt (a 1) fr n) p) (nI p) w op 0 fl)) rfl trivial ?_
    refine P0.cd (d0 := 2) (as := [.ref 0, .int 111, .int 114, .int 0, .int 0, .int 0, .int 0, .int 0, .int 0]) (rest := []) (r1 := some (.int (if sg (Bt (a 1) fr n) p = (-10) then 1 else 0))) (h1 := hT g a (nI fr) (nI n) (nI (en (Bt (a 1) fr n) p)) (kd (Bt (a 1) fr n) p) (nI p) w op 0 fl) (st' := [.int (if sg (Bt (a 1) fr n) p = (-10) then 1 else 0)]) GX11_isWord kX11_either2_16 rfl ⟨_, _, rfl, rfl, .inl ⟨_, _, _, _, rfl, rfl⟩⟩ (Nat.le_of_ble_eq_true rfl) (Nat.le_of_ble_eq_true rfl) (e_isWord_ok hT0 hp (cs := [111, 114]) (code := (-10)) (by decide +kernel) (by decide) (by decide)) (Nat.le_of_ble_eq_true rfl) rfl (Nat.le_of_ble_eq_true rfl) rfl ?_
    refine P0.b GX11_either2 1 (ob := []) (cf' := (if (if sg (Bt (a 1) fr n) p = (-10) then 1 else 0) = 0 then 48 else 22, [some (.ref 0), some (.int x), none], [], hT g a (nI fr) (nI n) (nI (en (Bt (a 1) fr n) p)) (kd (Bt (a 1) fr n) p) (nI p) w op 0 fl)) rfl trivial ?_
    rw [if_neg (show ¬ (sg (Bt (a 1) fr n) p = (-10)) from by rw [sg_end hpf]; decide), if_pos rfl]
    refine P0.b GX11_either2 1 (ob := []) (cf' := (49, [some (.ref 0), some (.int x), none], [.int x], hT g a (nI fr) (nI n) (nI (en (Bt (a 1) fr n) p)) (kd (Bt (a 1) fr n) p) (nI p) w op 0 fl)) rfl trivial ?_
    exact P0.ri (by decide +kernel) rfl rfl (QP.yes rfl hw hp)
  | f + 1, x, p, w, fl, hw, hp, hpf => by
    refine P0.b GX11_either2 9 (ob := []) (cf' := (16, [some (.ref 0), some (.int x), none], [.int 0, .int 0, .int 0, .int 0, .int 0, .int 0, .int 114, .int 111, .ref 0], hT g a (nI fr) (nI n) (nI (en (Bt (a 1) fr n) p)) (kd (Bt (a 1) fr n) p) (nI p) w op 0 fl)) rfl trivial ?_
    refine P0.cd (d0 := 2) (as := [.ref 0, .int 111, .int 114, .int 0, .int 0, .int 0, .int 0, .int 0, .int 0]) (rest := []) (r1 := some (.int (if sg (Bt (a 1) fr n) p = (-10) then 1 else 0))) (h1 := hT g a (nI fr) (nI n) (nI (en (Bt (a 1) fr n) p)) (kd (Bt (a 1) fr n) p) (nI p) w op 0 fl) (st' := [.int (if sg (Bt (a 1) fr n) p = (-10) then 1 else 0)]) GX11_isWord kX11_either2_16 rfl ⟨_, _, rfl, rfl, .inl ⟨_, _, _, _, rfl, rfl⟩⟩ (Nat.le_of_ble_eq_true rfl) (Nat.le_of_ble_eq_true rfl) (e_isWord_ok hT0 hp (cs := [111, 114]) (code := (-10)) (by decide +kernel) (by decide) (by decide)) (Nat.le_of_ble_eq_true rfl) rfl (Nat.le_of_ble_eq_true rfl) rfl ?_
    refine P0.b GX11_either2 1 (ob := []) (cf' := (if (if sg (Bt (a 1) fr n) p = (-10) then 1 else 0) = 0 then 48 else 22, [some (.ref 0), some (.int x), none], [], hT g a (nI fr) (nI n) (nI (en (Bt (a 1) fr n) p)) (kd (Bt (a 1) fr n) p) (nI p) w op 0 fl)) rfl trivial ?_
    refine P0.ifB (fun h1 => ?_) (fun h1 => ?_)
    · refine P0.b GX11_either2 1 (ob := []) (cf' := (49, [some (.ref 0), some (.int x), none], [.int x], hT g a (nI fr) (nI n) (nI (en (Bt (a 1) fr n) p)) (kd (Bt (a 1) fr n) p) (nI p) w op 0 fl)) rfl trivial ?_
      exact P0.ri (by decide +kernel) rfl rfl (QP.yes (pch_stop (show jEith (sg (Bt (a 1) fr n) p) = false from by simp only [jEith]; exact decide_eq_false h1)) hw hp)
    · refine P0.b GX11_either2 1 (ob := []) (cf' := (23, [some (.ref 0), some (.int x), none], [.ref 0], hT g a (nI fr) (nI n) (nI (en (Bt (a 1) fr n) p)) (kd (Bt (a 1) fr n) p) (nI p) w op 0 fl)) rfl trivial ?_
      refine P0.cs (as := [.ref 0]) (rest := []) GX11_nextToken kX11_either2_23 rfl ⟨_, _, rfl, rfl, .inl ⟨_, _, _, _, rfl, rfl⟩⟩ (Nat.le_of_ble_eq_true rfl) (Nat.le_of_ble_eq_true rfl) (P0.mono (e_X11_nextToken hT0 (en (Bt (a 1) fr n) p) (en_le hp) _ _ _ _ _ _) (Nat.le_of_ble_eq_true rfl) (Nat.zero_le _) (Nat.zero_le _) (fun _ _ q => q)) (Nat.le_of_ble_eq_true rfl) (fun _ _ q => q.len) ?_
      rintro _ _ ⟨w104, rfl, rfl, hw104⟩
      have hp104 := nx_le (f := a 1) (fr := fr) hp
      show P0 _ _ _ _ (26, [some (.ref 0), some (.int x), none], [], hT g a (nI fr) (nI n) (nI (en (Bt (a 1) fr n) (nx (Bt (a 1) fr n) p))) (kd (Bt (a 1) fr n) (nx (Bt (a 1) fr n) p)) (nI (nx (Bt (a 1) fr n) p)) w104 op 0 fl) _
      refine P0.b GX11_either2 1 (ob := []) (cf' := (27, [some (.ref 0), some (.int x), none], [.ref 0], hT g a (nI fr) (nI n) (nI (en (Bt (a 1) fr n) (nx (Bt (a 1) fr n) p))) (kd (Bt (a 1) fr n) (nx (Bt (a 1) fr n) p)) (nI (nx (Bt (a 1) fr n) p)) w104 op 0 fl)) rfl trivial ?_
      refine P0.cs (as := [.ref 0]) (rest := []) GX11_both2 kX11_either2_27 rfl ⟨_, _, rfl, rfl, .inl ⟨_, _, _, _, rfl, rfl⟩⟩ (Nat.le_of_ble_eq_true rfl) (Nat.le_of_ble_eq_true rfl) (P0.mono (e_X11_both2 hT0 hw104 hp104 (op := op) hop) (Nat.le_of_ble_eq_true rfl) (Nat.zero_le _) (Nat.zero_le _) (fun _ _ q => q)) (Nat.le_of_ble_eq_true rfl) (fun _ _ q => q.len) ?_
      rintro r1105 h1105 hq105
      have hq105 : QP g a fr n op (pboth (sg (Bt (a 1) fr n)) (nx (Bt (a 1) fr n)) (vA g) true (lvl (sg (Bt (a 1) fr n)) (nx (Bt (a 1) fr n)) (vA g) 2 0) (lvl (sg (Bt (a 1) fr n)) (nx (Bt (a 1) fr n)) (vA g) 2 1) (lvl (sg (Bt (a 1) fr n)) (nx (Bt (a 1) fr n)) (vA g) 2 2) (nx (Bt (a 1) fr n) p)) r1105 h1105 := hq105
      rcases hR105 : pboth (sg (Bt (a 1) fr n)) (nx (Bt (a 1) fr n)) (vA g) true (lvl (sg (Bt (a 1) fr n)) (nx (Bt (a 1) fr n)) (vA g) 2 0) (lvl (sg (Bt (a 1) fr n)) (nx (Bt (a 1) fr n)) (vA g) 2 1) (lvl (sg (Bt (a 1) fr n)) (nx (Bt (a 1) fr n)) (vA g) 2 2) (nx (Bt (a 1) fr n) p) with q105 | ⟨x105, p105⟩
      · rw [hR105] at hq105
        obtain ⟨v105, e105, tk105, pp105, w105, op105, rfl, rfl⟩ := hq105
        show P0 _ _ _ _ (30, [some (.ref 0), some (.int x), none], [.int v105], hT g a (nI fr) (nI n) e105 tk105 pp105 w105 op105 1 (nI q105)) _
        refine P0.b GX11_either2 3 (ob := []) (cf' := (if x = 0 then 35 else 39, [some (.ref 0), some (.int x), some (.int v105)], [], hT g a (nI fr) (nI n) e105 tk105 pp105 w105 op105 1 (nI q105))) rfl trivial ?_
        refine P0.if (fun h2 => ?_) (fun h2 => ?_)
        · refine P0.b GX11_either2 2 (ob := []) (cf' := (if v105 = 0 then 43 else 39, [some (.ref 0), some (.int x), some (.int v105)], [], hT g a (nI fr) (nI n) e105 tk105 pp105 w105 op105 1 (nI q105))) rfl trivial ?_
          refine P0.if (fun h3 => ?_) (fun h3 => ?_)
          · refine P0.b GX11_either2 3 (ob := []) (cf' := (5, [some (.ref 0), some (.int 0), some (.int v105)], [], hT g a (nI fr) (nI n) e105 tk105 pp105 w105 op105 1 (nI q105))) rfl trivial ?_
            refine P0.b GX11_either2 9 (ob := []) (cf' := (16, [some (.ref 0), some (.int 0), some (.int v105)], [.int 0, .int 0, .int 0, .int 0, .int 0, .int 0, .int 114, .int 111, .ref 0], hT g a (nI fr) (nI n) e105 tk105 pp105 w105 op105 1 (nI q105))) rfl trivial ?_
            refine P0.cd (d0 := 2) (as := [.ref 0, .int 111, .int 114, .int 0, .int 0, .int 0, .int 0, .int 0, .int 0]) (rest := []) (r1 := some (.int 0)) (h1 := hT g a (nI fr) (nI n) e105 tk105 pp105 w105 op105 1 (nI q105)) (st' := [.int 0]) GX11_isWord kX11_either2_16 rfl ⟨_, _, rfl, rfl, .inl ⟨_, _, _, _, rfl, rfl⟩⟩ (Nat.le_of_ble_eq_true rfl) (Nat.le_of_ble_eq_true rfl) (e_isWord_bad (c0 := 111) (c1 := 114) (c2 := 0) (c3 := 0) (c4 := 0) (c5 := 0) (c6 := 0) (c7 := 0)) (Nat.le_of_ble_eq_true rfl) rfl (Nat.le_of_ble_eq_true rfl) rfl ?_
            refine P0.b GX11_either2 2 (ob := []) (cf' := (49, [some (.ref 0), some (.int 0), some (.int v105)], [.int 0], hT g a (nI fr) (nI n) e105 tk105 pp105 w105 op105 1 (nI q105))) rfl trivial ?_
            exact P0.ri (by decide +kernel) rfl rfl (QP.no (pch_fail (show jEith (sg (Bt (a 1) fr n) p) = true from by rw [h1]; decide) hR105) 0 e105 tk105 pp105 w105 op105)
          · refine P0.b GX11_either2 4 (ob := []) (cf' := (5, [some (.ref 0), some (.int 1), some (.int v105)], [], hT g a (nI fr) (nI n) e105 tk105 pp105 w105 op105 1 (nI q105))) rfl trivial ?_
            refine P0.b GX11_either2 9 (ob := []) (cf' := (16, [some (.ref 0), some (.int 1), some (.int v105)], [.int 0, .int 0, .int 0, .int 0, .int 0, .int 0, .int 114, .int 111, .ref 0], hT g a (nI fr) (nI n) e105 tk105 pp105 w105 op105 1 (nI q105))) rfl trivial ?_
            refine P0.cd (d0 := 2) (as := [.ref 0, .int 111, .int 114, .int 0, .int 0, .int 0, .int 0, .int 0, .int 0]) (rest := []) (r1 := some (.int 0)) (h1 := hT g a (nI fr) (nI n) e105 tk105 pp105 w105 op105 1 (nI q105)) (st' := [.int 0]) GX11_isWord kX11_either2_16 rfl ⟨_, _, rfl, rfl, .inl ⟨_, _, _, _, rfl, rfl⟩⟩ (Nat.le_of_ble_eq_true rfl) (Nat.le_of_ble_eq_true rfl) (e_isWord_bad (c0 := 111) (c1 := 114) (c2 := 0) (c3 := 0) (c4 := 0) (c5 := 0) (c6 := 0) (c7 := 0)) (Nat.le_of_ble_eq_true rfl) rfl (Nat.le_of_ble_eq_true rfl) rfl ?_
            refine P0.b GX11_either2 2 (ob := []) (cf' := (49, [some (.ref 0), some (.int 1), some (.int v105)], [.int 1], hT g a (nI fr) (nI n) e105 tk105 pp105 w105 op105 1 (nI q105))) rfl trivial ?_
            exact P0.ri (by decide +kernel) rfl rfl (QP.no (pch_fail (show jEith (sg (Bt (a 1) fr n) p) = true from by rw [h1]; decide) hR105) 1 e105 tk105 pp105 w105 op105)
        · refine P0.b GX11_either2 4 (ob := []) (cf' := (5, [some (.ref 0), some (.int 1), some (.int v105)], [], hT g a (nI fr) (nI n) e105 tk105 pp105 w105 op105 1 (nI q105))) rfl trivial ?_
          refine P0.b GX11_either2 9 (ob := []) (cf' := (16, [some (.ref 0), some (.int 1), some (.int v105)], [.int 0, .int 0, .int 0, .int 0, .int 0, .int 0, .int 114, .int 111, .ref 0], hT g a (nI fr) (nI n) e105 tk105 pp105 w105 op105 1 (nI q105))) rfl trivial ?_
          refine P0.cd (d0 := 2) (as := [.ref 0, .int 111, .int 114, .int 0, .int 0, .int 0, .int 0, .int 0, .int 0]) (rest := []) (r1 := some (.int 0)) (h1 := hT g a (nI fr) (nI n) e105 tk105 pp105 w105 op105 1 (nI q105)) (st' := [.int 0]) GX11_isWord kX11_either2_16 rfl ⟨_, _, rfl, rfl, .inl ⟨_, _, _, _, rfl, rfl⟩⟩ (Nat.le_of_ble_eq_true rfl) (Nat.le_of_ble_eq_true rfl) (e_isWord_bad (c0 := 111) (c1 := 114) (c2 := 0) (c3 := 0) (c4 := 0) (c5 := 0) (c6 := 0) (c7 := 0)) (Nat.le_of_ble_eq_true rfl) rfl (Nat.le_of_ble_eq_true rfl) rfl ?_
          refine P0.b GX11_either2 2 (ob := []) (cf' := (49, [some (.ref 0), some (.int 1), some (.int v105)], [.int 1], hT g a (nI fr) (nI n) e105 tk105 pp105 w105 op105 1 (nI q105))) rfl trivial ?_
          exact P0.ri (by decide +kernel) rfl rfl (QP.no (pch_fail (show jEith (sg (Bt (a 1) fr n) p) = true from by rw [h1]; decide) hR105) 1 e105 tk105 pp105 w105 op105)
      · rw [hR105] at hq105
        obtain ⟨w105, fl105, rfl, rfl, hw105, hp105⟩ := hq105
        show P0 _ _ _ _ (30, [some (.ref 0), some (.int x), none], [.int x105], hT g a (nI fr) (nI n) (nI (en (Bt (a 1) fr n) p105)) (kd (Bt (a 1) fr n) p105) (nI p105) w105 op 0 fl105) _
        refine P0.b GX11_either2 3 (ob := []) (cf' := (if x = 0 then 35 else 39, [some (.ref 0), some (.int x), some (.int x105)], [], hT g a (nI fr) (nI n) (nI (en (Bt (a 1) fr n) p105)) (kd (Bt (a 1) fr n) p105) (nI p105) w105 op 0 fl105)) rfl trivial ?_
        refine P0.if (fun h4 => ?_) (fun h4 => ?_)
        · refine P0.b GX11_either2 2 (ob := []) (cf' := (if x105 = 0 then 43 else 39, [some (.ref 0), some (.int x), some (.int x105)], [], hT g a (nI fr) (nI n) (nI (en (Bt (a 1) fr n) p105)) (kd (Bt (a 1) fr n) p105) (nI p105) w105 op 0 fl105)) rfl trivial ?_
          refine P0.if (fun h5 => ?_) (fun h5 => ?_)
          · refine P0.b GX11_either2 3 (ob := []) (cf' := (5, [some (.ref 0), some (.int 0), some (.int x105)], [], hT g a (nI fr) (nI n) (nI (en (Bt (a 1) fr n) p105)) (kd (Bt (a 1) fr n) p105) (nI p105) w105 op 0 fl105)) rfl trivial ?_
            rw [pch_step (show jEith (sg (Bt (a 1) fr n) p) = true from by rw [h1]; decide) hR105, show (vA g).2.2 (sg (Bt (a 1) fr n) p) x x105 = (0 : Int32) from by rw [h1]; simp [vA, vBn, h4, h5]]
            refine P0.forget (ls' := [some (.ref 0), some (.int 0), none]) ⟨.inr rfl, .inr rfl, .inl rfl, trivial⟩ ?_
            exact lp_X11_either2 hT0 hop f _ _ _ _ hw105 hp105 (by have h1 := nx_lt (B := (Bt (a 1) fr n)) (p := p) (by rw [h1]; decide) (by rw [h1]; decide); have h2 := (prog_c0 nx_lt jB_ok (prog_not' nx_lt (prog_lvl nx_lt (vA g) 2 0) (prog_lvl nx_lt (vA g) 2 1) (prog_lvl nx_lt (vA g) 2 2))) _ _ _ hR105; omega)
          · refine P0.b GX11_either2 4 (ob := []) (cf' := (5, [some (.ref 0), some (.int 1), some (.int x105)], [], hT g a (nI fr) (nI n) (nI (en (Bt (a 1) fr n) p105)) (kd (Bt (a 1) fr n) p105) (nI p105) w105 op 0 fl105)) rfl trivial ?_
            rw [pch_step (show jEith (sg (Bt (a 1) fr n) p) = true from by rw [h1]; decide) hR105, show (vA g).2.2 (sg (Bt (a 1) fr n) p) x x105 = (1 : Int32) from by rw [h1]; simp [vA, vBn, h4, h5]]
            refine P0.forget (ls' := [some (.ref 0), some (.int 1), none]) ⟨.inr rfl, .inr rfl, .inl rfl, trivial⟩ ?_
            exact lp_X11_either2 hT0 hop f _ _ _ _ hw105 hp105 (by have h1 := nx_lt (B := (Bt (a 1) fr n)) (p := p) (by rw [h1]; decide) (by rw [h1]; decide); have h2 := (prog_c0 nx_lt jB_ok (prog_not' nx_lt (prog_lvl nx_lt (vA g) 2 0) (prog_lvl nx_lt (vA g) 2 1) (prog_lvl nx_lt (vA g) 2 2))) _ _ _ hR105; omega)
        · refine P0.b GX11_either2 4 (ob := []) (cf' := (5, [some (.ref 0), some (.int 1), some (.int x105)], [], hT g a (nI fr) (nI n) (nI (en (Bt (a 1) fr n) p105)) (kd (Bt (a 1) fr n) p105) (nI p105) w105 op 0 fl105)) rfl trivial ?_
          rw [pch_step (show jEith (sg (Bt (a 1) fr n) p) = true from by rw [h1]; decide) hR105, show (vA g).2.2 (sg (Bt (a 1) fr n) p) x x105 = (1 : Int32) from by rw [h1]; simp [vA, vBn, h4]]
          refine P0.forget (ls' := [some (.ref 0), some (.int 1), none]) ⟨.inr rfl, .inr rfl, .inl rfl, trivial⟩ ?_
          exact lp_X11_either2 hT0 hop f _ _ _ _ hw105 hp105 (by have h1 := nx_lt (B := (Bt (a 1) fr n)) (p := p) (by rw [h1]; decide) (by rw [h1]; decide); have h2 := (prog_c0 nx_lt jB_ok (prog_not' nx_lt (prog_lvl nx_lt (vA g) 2 0) (prog_lvl nx_lt (vA g) 2 1) (prog_lvl nx_lt (vA g) 2 2))) _ _ _ hR105; omega)
set_option maxHeartbeats 2000000 in
theorem e_X11_either2 {g : Nat → Int32} {a : Nat → Nat → Int32} {fr n : Nat} (hT0 : TxOK a fr n) {p : Nat} {w : Int64} {fl : Int32} (hw : wOK (Bt (a 1) fr n) p w) (hp : p ≤ n) {op : Int32} (hop : op = 2) : P0 27 0 0 mX11_either2 (0, ent 3 [.ref 0], [], hT g a (nI fr) (nI n) (nI (en (Bt (a 1) fr n) p)) (kd (Bt (a 1) fr n) p) (nI p) w op 0 fl) (QP g a fr n op (lvl (sg (Bt (a 1) fr n)) (nx (Bt (a 1) fr n)) (vA g) 3 0 p)) := by
  show P0 _ _ _ _ _ (QP g a fr n op (pc0 (sg (Bt (a 1) fr n)) (nx (Bt (a 1) fr n)) (vA g).2.2 jEith (pboth (sg (Bt (a 1) fr n)) (nx (Bt (a 1) fr n)) (vA g) true (lvl (sg (Bt (a 1) fr n)) (nx (Bt (a 1) fr n)) (vA g) 2 0) (lvl (sg (Bt (a 1) fr n)) (nx (Bt (a 1) fr n)) (vA g) 2 1) (lvl (sg (Bt (a 1) fr n)) (nx (Bt (a 1) fr n)) (vA g) 2 2)) p))
  refine P0.b GX11_either2 1 (ob := []) (cf' := (1, [some (.ref 0), none, none], [.ref 0], hT g a (nI fr) (nI n) (nI (en (Bt (a 1) fr n) p)) (kd (Bt (a 1) fr n) p) (nI p) w op 0 fl)) rfl trivial ?_
  refine P0.cs (as := [.ref 0]) (rest := []) GX11_both2 kX11_either2_1 rfl ⟨_, _, rfl, rfl, .inl ⟨_, _, _, _, rfl, rfl⟩⟩ (Nat.le_of_ble_eq_true rfl) (Nat.le_of_ble_eq_true rfl) (P0.mono (e_X11_both2 hT0 hw hp (op := op) hop) (Nat.le_of_ble_eq_true rfl) (Nat.zero_le _) (Nat.zero_le _) (fun _ _ q => q)) (Nat.le_of_ble_eq_true rfl) (fun _ _ q => q.len) ?_
  rintro r1106 h1106 hq106
  have hq106 : QP g a fr n op (pboth (sg (Bt (a 1) fr n)) (nx (Bt (a 1) fr n)) (vA g) true (lvl (sg (Bt (a 1) fr n)) (nx (Bt (a 1) fr n)) (vA g) 2 0) (lvl (sg (Bt (a 1) fr n)) (nx (Bt (a 1) fr n)) (vA g) 2 1) (lvl (sg (Bt (a 1) fr n)) (nx (Bt (a 1) fr n)) (vA g) 2 2) p) r1106 h1106 := hq106
  rcases hR106 : pboth (sg (Bt (a 1) fr n)) (nx (Bt (a 1) fr n)) (vA g) true (lvl (sg (Bt (a 1) fr n)) (nx (Bt (a 1) fr n)) (vA g) 2 0) (lvl (sg (Bt (a 1) fr n)) (nx (Bt (a 1) fr n)) (vA g) 2 1) (lvl (sg (Bt (a 1) fr n)) (nx (Bt (a 1) fr n)) (vA g) 2 2) p with q106 | ⟨x106, p106⟩
  · rw [hR106] at hq106
    obtain ⟨v106, e106, tk106, pp106, w106, op106, rfl, rfl⟩ := hq106
    show P0 _ _ _ _ (4, [some (.ref 0), none, none], [.int v106], hT g a (nI fr) (nI n) e106 tk106 pp106 w106 op106 1 (nI q106)) _
    refine P0.b GX11_either2 1 (ob := []) (cf' := (5, [some (.ref 0), some (.int v106), none], [], hT g a (nI fr) (nI n) e106 tk106 pp106 w106 op106 1 (nI q106))) rfl trivial ?_
    refine P0.b GX11_either2 9 (ob := []) (cf' := (16, [some (.ref 0), some (.int v106), none], [.int 0, .int 0, .int 0, .int 0, .int 0, .int 0, .int 114, .int 111, .ref 0], hT g a (nI fr) (nI n) e106 tk106 pp106 w106 op106 1 (nI q106))) rfl trivial ?_
    refine P0.cd (d0 := 2) (as := [.ref 0, .int 111, .int 114, .int 0, .int 0, .int 0, .int 0, .int 0, .int 0]) (rest := []) (r1 := some (.int 0)) (h1 := hT g a (nI fr) (nI n) e106 tk106 pp106 w106 op106 1 (nI q106)) (st' := [.int 0]) GX11_isWord kX11_either2_16 rfl ⟨_, _, rfl, rfl, .inl ⟨_, _, _, _, rfl, rfl⟩⟩ (Nat.le_of_ble_eq_true rfl) (Nat.le_of_ble_eq_true rfl) (e_isWord_bad (c0 := 111) (c1 := 114) (c2 := 0) (c3 := 0) (c4 := 0) (c5 := 0) (c6 := 0) (c7 := 0)) (Nat.le_of_ble_eq_true rfl) rfl (Nat.le_of_ble_eq_true rfl) rfl ?_
    refine P0.b GX11_either2 2 (ob := []) (cf' := (49, [some (.ref 0), some (.int v106), none], [.int v106], hT g a (nI fr) (nI n) e106 tk106 pp106 w106 op106 1 (nI q106))) rfl trivial ?_
    exact P0.ri (by decide +kernel) rfl rfl (QP.no (pc0_no hR106) v106 e106 tk106 pp106 w106 op106)
  · rw [hR106] at hq106
    obtain ⟨w106, fl106, rfl, rfl, hw106, hp106⟩ := hq106
    show P0 _ _ _ _ (4, [some (.ref 0), none, none], [.int x106], hT g a (nI fr) (nI n) (nI (en (Bt (a 1) fr n) p106)) (kd (Bt (a 1) fr n) p106) (nI p106) w106 op 0 fl106) _
    refine P0.b GX11_either2 1 (ob := []) (cf' := (5, [some (.ref 0), some (.int x106), none], [], hT g a (nI fr) (nI n) (nI (en (Bt (a 1) fr n) p106)) (kd (Bt (a 1) fr n) p106) (nI p106) w106 op 0 fl106)) rfl trivial ?_
    rw [pc0_yes hR106]
    exact lp_X11_either2 hT0 hop 200 _ _ _ _ hw106 hp106 (by have := hT0.2.1; omega)
