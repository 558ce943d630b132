/-! ===== laid by program (wip/tools) ===== -/
set_option maxHeartbeats 2000000 in
theorem e_X11_atom3 {g : Nat → Int32} {a : Nat → Nat → Int32} {fr n : Nat} (hT0 : TxOK a fr n) {p : Nat} {w : Int64} {fl : Int32} (hw : wOK (Bt (a 1) fr n) p w) (hp : p ≤ n) {op : Int32} (hop : op = 3) : P0 16 0 0 mX11_atom3 (0, ent 2 [.ref 0], [], hT g a (nI fr) (nI n) (nI (en (Bt (a 1) fr n) p)) (kd (Bt (a 1) fr n) p) (nI p) w op 0 fl) (QP g a fr n op (lvl (sg (Bt (a 1) fr n)) (nx (Bt (a 1) fr n)) (vA g) 2 2 p)) := by
  show P0 _ _ _ _ _ (QP g a fr n op (pone (sg (Bt (a 1) fr n)) (nx (Bt (a 1) fr n)) (vA g) true (lvl (sg (Bt (a 1) fr n)) (nx (Bt (a 1) fr n)) (vA g) 1 0) (lvl (sg (Bt (a 1) fr n)) (nx (Bt (a 1) fr n)) (vA g) 1 2) p))
  refine P0.b GX11_atom3 4 (ob := []) (cf' := (5, [some (.ref 0), some (.int 0)], [.int 45, .ref 0], hT g a (nI fr) (nI n) (nI (en (Bt (a 1) fr n) p)) (kd (Bt (a 1) fr n) p) (nI p) w op 0 fl)) rfl trivial ?_
  refine P0.cd (d0 := 0) (as := [.ref 0, .int 45]) (rest := []) (r1 := some (.int (if sg (Bt (a 1) fr n) p = (-17) then 1 else 0))) (h1 := hT g a (nI fr) (nI n) (nI (en (Bt (a 1) fr n) p)) (kd (Bt (a 1) fr n) p) (nI p) w op 0 fl) (st' := [.int (if sg (Bt (a 1) fr n) p = (-17) then 1 else 0)]) GX11_isSign kX11_atom3_5 rfl ⟨_, _, rfl, rfl, .inl ⟨_, _, _, _, rfl, rfl⟩⟩ (Nat.le_of_ble_eq_true rfl) (Nat.le_of_ble_eq_true rfl) (e_isSign_ok hw (c := 45) (code := (-17)) (by decide +kernel)) (Nat.le_of_ble_eq_true rfl) rfl (Nat.le_of_ble_eq_true rfl) rfl ?_
  refine P0.b GX11_atom3 1 (ob := []) (cf' := (if (if sg (Bt (a 1) fr n) p = (-17) then 1 else 0) = 0 then 37 else 11, [some (.ref 0), some (.int 0)], [], hT g a (nI fr) (nI n) (nI (en (Bt (a 1) fr n) p)) (kd (Bt (a 1) fr n) p) (nI p) w op 0 fl)) rfl trivial ?_
  refine P0.ifB (fun h1 => ?_) (fun h1 => ?_)
  · refine P0.b GX11_atom3 2 (ob := []) (cf' := (40, [some (.ref 0), some (.int 0)], [.int 40, .ref 0], hT g a (nI fr) (nI n) (nI (en (Bt (a 1) fr n) p)) (kd (Bt (a 1) fr n) p) (nI p) w op 0 fl)) rfl trivial ?_
    refine P0.cd (d0 := 0) (as := [.ref 0, .int 40]) (rest := []) (r1 := some (.int (if sg (Bt (a 1) fr n) p = (-13) then 1 else 0))) (h1 := hT g a (nI fr) (nI n) (nI (en (Bt (a 1) fr n) p)) (kd (Bt (a 1) fr n) p) (nI p) w op 0 fl) (st' := [.int (if sg (Bt (a 1) fr n) p = (-13) then 1 else 0)]) GX11_isSign kX11_atom3_40 rfl ⟨_, _, rfl, rfl, .inl ⟨_, _, _, _, rfl, rfl⟩⟩ (Nat.le_of_ble_eq_true rfl) (Nat.le_of_ble_eq_true rfl) (e_isSign_ok hw (c := 40) (code := (-13)) (by decide +kernel)) (Nat.le_of_ble_eq_true rfl) rfl (Nat.le_of_ble_eq_true rfl) rfl ?_
    refine P0.b GX11_atom3 1 (ob := []) (cf' := (if (if sg (Bt (a 1) fr n) p = (-13) then 1 else 0) = 0 then 95 else 46, [some (.ref 0), some (.int 0)], [], hT g a (nI fr) (nI n) (nI (en (Bt (a 1) fr n) p)) (kd (Bt (a 1) fr n) p) (nI p) w op 0 fl)) rfl trivial ?_
    refine P0.ifB (fun h2 => ?_) (fun h2 => ?_)
    · refine P0.b GX11_atom3 7 (ob := []) (cf' := (if kd (Bt (a 1) fr n) p = 2 then 110 else 123, [some (.ref 0), some (.int 0)], [], hT g a (nI fr) (nI n) (nI (en (Bt (a 1) fr n) p)) (kd (Bt (a 1) fr n) p) (nI p) w op 0 fl)) rfl trivial ?_
      refine P0.if (fun h3 => ?_) (fun h3 => ?_)
      · refine P0.b GX11_atom3 5 (ob := []) (cf' := (117, [some (.ref 0), some (.int w.toInt32)], [.ref 0], hT g a (nI fr) (nI n) (nI (en (Bt (a 1) fr n) p)) (kd (Bt (a 1) fr n) p) (nI p) w op 0 fl)) rfl trivial ?_
        refine P0.cs (as := [.ref 0]) (rest := []) GX11_nextToken kX11_atom3_117 rfl ⟨_, _, rfl, rfl, .inl ⟨_, _, _, _, rfl, rfl⟩⟩ (Nat.le_of_ble_eq_true rfl) (Nat.le_of_ble_eq_true rfl) (P0.mono (e_X11_nextToken hT0 (en (Bt (a 1) fr n) p) (en_le hp) _ _ _ _ _ _) (Nat.le_of_ble_eq_true rfl) (Nat.zero_le _) (Nat.zero_le _) (fun _ _ q => q)) (Nat.le_of_ble_eq_true rfl) (fun _ _ q => q.len) ?_
        rintro _ _ ⟨w49, rfl, rfl, hw49⟩
        have hp49 := nx_le (f := a 1) (fr := fr) hp
        show P0 _ _ _ _ (120, [some (.ref 0), some (.int w.toInt32)], [], hT g a (nI fr) (nI n) (nI (en (Bt (a 1) fr n) (nx (Bt (a 1) fr n) p))) (kd (Bt (a 1) fr n) (nx (Bt (a 1) fr n) p)) (nI (nx (Bt (a 1) fr n) p)) w49 op 0 fl) _
        refine P0.b GX11_atom3 2 (ob := []) (cf' := (162, [some (.ref 0), some (.int w.toInt32)], [.int w.toInt32], hT g a (nI fr) (nI n) (nI (en (Bt (a 1) fr n) (nx (Bt (a 1) fr n) p))) (kd (Bt (a 1) fr n) (nx (Bt (a 1) fr n) p)) (nI (nx (Bt (a 1) fr n) p)) w49 op 0 fl)) rfl trivial ?_
        exact P0.ri (by decide +kernel) rfl rfl (QP.yes (pone_num h3 hw) hw49 hp49)
      · refine P0.b GX11_atom3 7 (ob := []) (cf' := (if kd (Bt (a 1) fr n) p = 1 then 138 else 157, [some (.ref 0), some (.int 0)], [], hT g a (nI fr) (nI n) (nI (en (Bt (a 1) fr n) p)) (kd (Bt (a 1) fr n) p) (nI p) w op 0 fl)) rfl trivial ?_
        refine P0.if (fun h4 => ?_) (fun h4 => ?_)
        · refine P0.b GX11_atom3 1 (ob := []) (cf' := (139, [some (.ref 0), some (.int 0)], [.ref 0], hT g a (nI fr) (nI n) (nI (en (Bt (a 1) fr n) p)) (kd (Bt (a 1) fr n) p) (nI p) w op 0 fl)) rfl trivial ?_
          refine P0.cs (as := [.ref 0]) (rest := []) GX11_name kX11_atom3_139 rfl ⟨_, _, rfl, rfl, .inl ⟨_, _, _, _, rfl, rfl⟩⟩ (Nat.le_of_ble_eq_true rfl) (Nat.le_of_ble_eq_true rfl) (P0.mono (e_X11_name hT0 hw hp h4) (Nat.le_of_ble_eq_true rfl) (Nat.zero_le _) (Nat.zero_le _) (fun _ _ q => q)) (Nat.le_of_ble_eq_true rfl) (fun _ _ q => by rcases q with ⟨_, _, rfl⟩ | ⟨_, _, rfl⟩ <;> exact hT_len.trans hT_len.symm) ?_
          rintro _ _ (⟨hN50, rfl, rfl⟩ | ⟨hN50, rfl, rfl⟩)
          · show P0 _ _ _ _ (142, [some (.ref 0), some (.int 0)], [.int (vNm g (sg (Bt (a 1) fr n) p))], hT g a (nI fr) (nI n) (nI (en (Bt (a 1) fr n) p)) (kd (Bt (a 1) fr n) p) (nI p) w op 0 fl) _
            refine P0.b GX11_atom3 5 (ob := []) (cf' := (151, [some (.ref 0), some (.int (vNm g (sg (Bt (a 1) fr n) p)))], [.ref 0], hT g a (nI fr) (nI n) (nI (en (Bt (a 1) fr n) p)) (kd (Bt (a 1) fr n) p) (nI p) w op 0 fl)) rfl trivial ?_
            refine P0.cs (as := [.ref 0]) (rest := []) GX11_nextToken kX11_atom3_151 rfl ⟨_, _, rfl, rfl, .inl ⟨_, _, _, _, rfl, rfl⟩⟩ (Nat.le_of_ble_eq_true rfl) (Nat.le_of_ble_eq_true rfl) (P0.mono (e_X11_nextToken hT0 (en (Bt (a 1) fr n) p) (en_le hp) _ _ _ _ _ _) (Nat.le_of_ble_eq_true rfl) (Nat.zero_le _) (Nat.zero_le _) (fun _ _ q => q)) (Nat.le_of_ble_eq_true rfl) (fun _ _ q => q.len) ?_
            rintro _ _ ⟨w51, rfl, rfl, hw51⟩
            have hp51 := nx_le (f := a 1) (fr := fr) hp
            show P0 _ _ _ _ (154, [some (.ref 0), some (.int (vNm g (sg (Bt (a 1) fr n) p)))], [], hT g a (nI fr) (nI n) (nI (en (Bt (a 1) fr n) (nx (Bt (a 1) fr n) p))) (kd (Bt (a 1) fr n) (nx (Bt (a 1) fr n) p)) (nI (nx (Bt (a 1) fr n) p)) w51 op 0 fl) _
            refine P0.b GX11_atom3 2 (ob := []) (cf' := (162, [some (.ref 0), some (.int (vNm g (sg (Bt (a 1) fr n) p)))], [.int (vNm g (sg (Bt (a 1) fr n) p))], hT g a (nI fr) (nI n) (nI (en (Bt (a 1) fr n) (nx (Bt (a 1) fr n) p))) (kd (Bt (a 1) fr n) (nx (Bt (a 1) fr n) p)) (nI (nx (Bt (a 1) fr n) p)) w51 op 0 fl)) rfl trivial ?_
            exact P0.ri (by decide +kernel) rfl rfl (QP.yes (pone_val hN50) hw51 hp51)
          · show P0 _ _ _ _ (142, [some (.ref 0), some (.int 0)], [.int 0], hT g a (nI fr) (nI n) (nI (en (Bt (a 1) fr n) p)) (kd (Bt (a 1) fr n) p) (nI p) w op 1 (nI p)) _
            refine P0.b GX11_atom3 5 (ob := []) (cf' := (162, [some (.ref 0), some (.int 0)], [.int 0], hT g a (nI fr) (nI n) (nI (en (Bt (a 1) fr n) p)) (kd (Bt (a 1) fr n) p) (nI p) w op 1 (nI p))) rfl trivial ?_
            exact P0.ri (by decide +kernel) rfl rfl (QP.no (pone_bad hN50 h1 h2) 0 (nI (en (Bt (a 1) fr n) p)) (kd (Bt (a 1) fr n) p) (nI p) w op)
        · refine P0.b GX11_atom3 1 (ob := []) (cf' := (158, [some (.ref 0), some (.int 0)], [.ref 0], hT g a (nI fr) (nI n) (nI (en (Bt (a 1) fr n) p)) (kd (Bt (a 1) fr n) p) (nI p) w op 0 fl)) rfl trivial ?_
          refine P0.cd (d0 := 0) (as := [.ref 0]) (rest := []) (r1 := none) (h1 := hT g a (nI fr) (nI n) (nI (en (Bt (a 1) fr n) p)) (kd (Bt (a 1) fr n) p) (nI p) w op 1 (nI p)) (st' := []) GX11_fail kX11_atom3_158 rfl ⟨_, _, rfl, rfl, .inl ⟨_, _, _, _, rfl, rfl⟩⟩ (Nat.le_of_ble_eq_true rfl) (Nat.le_of_ble_eq_true rfl) (e_fail_ok) (Nat.le_of_ble_eq_true rfl) rfl (Nat.le_of_ble_eq_true rfl) rfl ?_
          refine P0.b GX11_atom3 1 (ob := []) (cf' := (162, [some (.ref 0), some (.int 0)], [.int 0], hT g a (nI fr) (nI n) (nI (en (Bt (a 1) fr n) p)) (kd (Bt (a 1) fr n) p) (nI p) w op 1 (nI p))) rfl trivial ?_
          exact P0.ri (by decide +kernel) rfl rfl (QP.no (pone_bad (kdN h3 h4) h1 h2) 0 (nI (en (Bt (a 1) fr n) p)) (kd (Bt (a 1) fr n) p) (nI p) w op)
    · refine P0.b GX11_atom3 1 (ob := []) (cf' := (47, [some (.ref 0), some (.int 0)], [.ref 0], hT g a (nI fr) (nI n) (nI (en (Bt (a 1) fr n) p)) (kd (Bt (a 1) fr n) p) (nI p) w op 0 fl)) rfl trivial ?_
      refine P0.cs (as := [.ref 0]) (rest := []) GX11_opens kX11_atom3_47 rfl ⟨_, _, rfl, rfl, .inl ⟨_, _, _, _, rfl, rfl⟩⟩ (Nat.le_of_ble_eq_true rfl) (Nat.le_of_ble_eq_true rfl) (P0.mono (e_opens_yes hT0 hp (op := op) (by rw [hop]; decide)) (Nat.le_of_ble_eq_true rfl) (Nat.zero_le _) (Nat.zero_le _) (fun _ _ q => q)) (Nat.le_of_ble_eq_true rfl) (fun _ _ q => by obtain ⟨_, _, rfl, _⟩ := q; exact hT_len.trans hT_len.symm) ?_
      rintro _ _ ⟨w52, rfl, rfl, hw52⟩
      have hp52 := nx_le (f := a 1) (fr := fr) hp
      show P0 _ _ _ _ (50, [some (.ref 0), some (.int 0)], [.int 1], hT g a (nI fr) (nI n) (nI (en (Bt (a 1) fr n) (nx (Bt (a 1) fr n) p))) (kd (Bt (a 1) fr n) (nx (Bt (a 1) fr n) p)) (nI (nx (Bt (a 1) fr n) p)) w52 (op + 1) 0 fl) _
      refine P0.b GX11_atom3 2 (ob := []) (cf' := (54, [some (.ref 0), some (.int 0)], [.ref 0], hT g a (nI fr) (nI n) (nI (en (Bt (a 1) fr n) (nx (Bt (a 1) fr n) p))) (kd (Bt (a 1) fr n) (nx (Bt (a 1) fr n) p)) (nI (nx (Bt (a 1) fr n) p)) w52 (op + 1) 0 fl)) rfl trivial ?_
      refine P0.cs (as := [.ref 0]) (rest := []) GX11_either4 kX11_atom3_54 rfl ⟨_, _, rfl, rfl, .inl ⟨_, _, _, _, rfl, rfl⟩⟩ (Nat.le_of_ble_eq_true rfl) (Nat.le_of_ble_eq_true rfl) (P0.mono (e_X11_either4 hT0 hw52 hp52 (op := op + 1) (by rw [hop]; decide)) (Nat.le_of_ble_eq_true rfl) (Nat.zero_le _) (Nat.zero_le _) (fun _ _ q => q)) (Nat.le_of_ble_eq_true rfl) (fun _ _ q => q.len) ?_
      rintro r1053 h1053 hq53
      have hq53 : QP g a fr n (op + 1) (lvl (sg (Bt (a 1) fr n)) (nx (Bt (a 1) fr n)) (vA g) 1 0 (nx (Bt (a 1) fr n) p)) r1053 h1053 := hq53
      rcases hR53 : lvl (sg (Bt (a 1) fr n)) (nx (Bt (a 1) fr n)) (vA g) 1 0 (nx (Bt (a 1) fr n) p) with q53 | ⟨x53, p53⟩
      · rw [hR53] at hq53
        obtain ⟨v53, e53, tk53, pp53, w53, op53, rfl, rfl⟩ := hq53
        show P0 _ _ _ _ (57, [some (.ref 0), some (.int 0)], [.int v53], hT g a (nI fr) (nI n) e53 tk53 pp53 w53 op53 1 (nI q53)) _
        refine P0.b GX11_atom3 3 (ob := []) (cf' := (61, [some (.ref 0), some (.int v53)], [.int 41, .ref 0], hT g a (nI fr) (nI n) e53 tk53 pp53 w53 op53 1 (nI q53))) rfl trivial ?_
        refine P0.cd (d0 := 0) (as := [.ref 0, .int 41]) (rest := []) (r1 := some (.int 0)) (h1 := hT g a (nI fr) (nI n) e53 tk53 pp53 w53 op53 1 (nI q53)) (st' := [.int 0]) GX11_isSign kX11_atom3_61 rfl ⟨_, _, rfl, rfl, .inl ⟨_, _, _, _, rfl, rfl⟩⟩ (Nat.le_of_ble_eq_true rfl) (Nat.le_of_ble_eq_true rfl) (e_isSign_bad (c := 41)) (Nat.le_of_ble_eq_true rfl) rfl (Nat.le_of_ble_eq_true rfl) rfl ?_
        refine P0.b GX11_atom3 2 (ob := []) (cf' := (68, [some (.ref 0), some (.int v53)], [.ref 0], hT g a (nI fr) (nI n) e53 tk53 pp53 w53 op53 1 (nI q53))) rfl trivial ?_
        refine P0.cd (d0 := 0) (as := [.ref 0]) (rest := []) (r1 := none) (h1 := hT g a (nI fr) (nI n) e53 tk53 pp53 w53 op53 1 (nI q53)) (st' := []) GX11_fail kX11_atom3_68 rfl ⟨_, _, rfl, rfl, .inl ⟨_, _, _, _, rfl, rfl⟩⟩ (Nat.le_of_ble_eq_true rfl) (Nat.le_of_ble_eq_true rfl) (e_fail_bad) (Nat.le_of_ble_eq_true rfl) rfl (Nat.le_of_ble_eq_true rfl) rfl ?_
        refine P0.b GX11_atom3 10 (ob := []) (cf' := (162, [some (.ref 0), some (.int v53)], [.int v53], hT g a (nI fr) (nI n) e53 tk53 pp53 w53 (op53 - 1) 1 (nI q53))) rfl trivial ?_
        exact P0.ri (by decide +kernel) rfl rfl (QP.no (pone_par_no h2 hR53) v53 e53 tk53 pp53 w53 (op53 - 1))
      · rw [hR53] at hq53
        obtain ⟨w53, fl53, rfl, rfl, hw53, hp53⟩ := hq53
        show P0 _ _ _ _ (57, [some (.ref 0), some (.int 0)], [.int x53], hT g a (nI fr) (nI n) (nI (en (Bt (a 1) fr n) p53)) (kd (Bt (a 1) fr n) p53) (nI p53) w53 (op + 1) 0 fl53) _
        refine P0.b GX11_atom3 3 (ob := []) (cf' := (61, [some (.ref 0), some (.int x53)], [.int 41, .ref 0], hT g a (nI fr) (nI n) (nI (en (Bt (a 1) fr n) p53)) (kd (Bt (a 1) fr n) p53) (nI p53) w53 (op + 1) 0 fl53)) rfl trivial ?_
        refine P0.cd (d0 := 0) (as := [.ref 0, .int 41]) (rest := []) (r1 := some (.int (if sg (Bt (a 1) fr n) p53 = (-14) then 1 else 0))) (h1 := hT g a (nI fr) (nI n) (nI (en (Bt (a 1) fr n) p53)) (kd (Bt (a 1) fr n) p53) (nI p53) w53 (op + 1) 0 fl53) (st' := [.int (if sg (Bt (a 1) fr n) p53 = (-14) then 1 else 0)]) GX11_isSign kX11_atom3_61 rfl ⟨_, _, rfl, rfl, .inl ⟨_, _, _, _, rfl, rfl⟩⟩ (Nat.le_of_ble_eq_true rfl) (Nat.le_of_ble_eq_true rfl) (e_isSign_ok hw53 (c := 41) (code := (-14)) (by decide +kernel)) (Nat.le_of_ble_eq_true rfl) rfl (Nat.le_of_ble_eq_true rfl) rfl ?_
        refine P0.b GX11_atom3 1 (ob := []) (cf' := (if (if sg (Bt (a 1) fr n) p53 = (-14) then 1 else 0) = 0 then 67 else 71, [some (.ref 0), some (.int x53)], [], hT g a (nI fr) (nI n) (nI (en (Bt (a 1) fr n) p53)) (kd (Bt (a 1) fr n) p53) (nI p53) w53 (op + 1) 0 fl53)) rfl trivial ?_
        refine P0.ifB (fun h5 => ?_) (fun h5 => ?_)
        · refine P0.b GX11_atom3 1 (ob := []) (cf' := (68, [some (.ref 0), some (.int x53)], [.ref 0], hT g a (nI fr) (nI n) (nI (en (Bt (a 1) fr n) p53)) (kd (Bt (a 1) fr n) p53) (nI p53) w53 (op + 1) 0 fl53)) rfl trivial ?_
          refine P0.cd (d0 := 0) (as := [.ref 0]) (rest := []) (r1 := none) (h1 := hT g a (nI fr) (nI n) (nI (en (Bt (a 1) fr n) p53)) (kd (Bt (a 1) fr n) p53) (nI p53) w53 (op + 1) 1 (nI p53)) (st' := []) GX11_fail kX11_atom3_68 rfl ⟨_, _, rfl, rfl, .inl ⟨_, _, _, _, rfl, rfl⟩⟩ (Nat.le_of_ble_eq_true rfl) (Nat.le_of_ble_eq_true rfl) (e_fail_ok) (Nat.le_of_ble_eq_true rfl) rfl (Nat.le_of_ble_eq_true rfl) rfl ?_
          refine P0.b GX11_atom3 10 (ob := []) (cf' := (162, [some (.ref 0), some (.int x53)], [.int x53], hT g a (nI fr) (nI n) (nI (en (Bt (a 1) fr n) p53)) (kd (Bt (a 1) fr n) p53) (nI p53) w53 ((op + 1) - 1) 1 (nI p53))) rfl trivial ?_
          rw [show (op + 1) - 1 = op from by rw [hop]; decide]
          exact P0.ri (by decide +kernel) rfl rfl (QP.no (pone_par_bad h2 hR53 h5) x53 (nI (en (Bt (a 1) fr n) p53)) (kd (Bt (a 1) fr n) p53) (nI p53) w53 op)
        · refine P0.b GX11_atom3 10 (ob := []) (cf' := (89, [some (.ref 0), some (.int x53)], [.ref 0], hT g a (nI fr) (nI n) (nI (en (Bt (a 1) fr n) p53)) (kd (Bt (a 1) fr n) p53) (nI p53) w53 ((op + 1) - 1) 0 fl53)) rfl trivial ?_
          rw [show (op + 1) - 1 = op from by rw [hop]; decide]
          refine P0.cs (as := [.ref 0]) (rest := []) GX11_nextToken kX11_atom3_89 rfl ⟨_, _, rfl, rfl, .inl ⟨_, _, _, _, rfl, rfl⟩⟩ (Nat.le_of_ble_eq_true rfl) (Nat.le_of_ble_eq_true rfl) (P0.mono (e_X11_nextToken hT0 (en (Bt (a 1) fr n) p53) (en_le hp53) _ _ _ _ _ _) (Nat.le_of_ble_eq_true rfl) (Nat.zero_le _) (Nat.zero_le _) (fun _ _ q => q)) (Nat.le_of_ble_eq_true rfl) (fun _ _ q => q.len) ?_
          rintro _ _ ⟨w54, rfl, rfl, hw54⟩
          have hp54 := nx_le (f := a 1) (fr := fr) hp53
          show P0 _ _ _ _ (92, [some (.ref 0), some (.int x53)], [], hT g a (nI fr) (nI n) (nI (en (Bt (a 1) fr n) (nx (Bt (a 1) fr n) p53))) (kd (Bt (a 1) fr n) (nx (Bt (a 1) fr n) p53)) (nI (nx (Bt (a 1) fr n) p53)) w54 op 0 fl53) _
          refine P0.b GX11_atom3 2 (ob := []) (cf' := (162, [some (.ref 0), some (.int x53)], [.int x53], hT g a (nI fr) (nI n) (nI (en (Bt (a 1) fr n) (nx (Bt (a 1) fr n) p53))) (kd (Bt (a 1) fr n) (nx (Bt (a 1) fr n) p53)) (nI (nx (Bt (a 1) fr n) p53)) w54 op 0 fl53)) rfl trivial ?_
          exact P0.ri (by decide +kernel) rfl rfl (QP.yes (pone_par_yes h2 hR53 h5) hw54 hp54)
  · refine P0.b GX11_atom3 1 (ob := []) (cf' := (12, [some (.ref 0), some (.int 0)], [.ref 0], hT g a (nI fr) (nI n) (nI (en (Bt (a 1) fr n) p)) (kd (Bt (a 1) fr n) p) (nI p) w op 0 fl)) rfl trivial ?_
    refine P0.cs (as := [.ref 0]) (rest := []) GX11_opens kX11_atom3_12 rfl ⟨_, _, rfl, rfl, .inl ⟨_, _, _, _, rfl, rfl⟩⟩ (Nat.le_of_ble_eq_true rfl) (Nat.le_of_ble_eq_true rfl) (P0.mono (e_opens_yes hT0 hp (op := op) (by rw [hop]; decide)) (Nat.le_of_ble_eq_true rfl) (Nat.zero_le _) (Nat.zero_le _) (fun _ _ q => q)) (Nat.le_of_ble_eq_true rfl) (fun _ _ q => by obtain ⟨_, _, rfl, _⟩ := q; exact hT_len.trans hT_len.symm) ?_
    rintro _ _ ⟨w55, rfl, rfl, hw55⟩
    have hp55 := nx_le (f := a 1) (fr := fr) hp
    show P0 _ _ _ _ (15, [some (.ref 0), some (.int 0)], [.int 1], hT g a (nI fr) (nI n) (nI (en (Bt (a 1) fr n) (nx (Bt (a 1) fr n) p))) (kd (Bt (a 1) fr n) (nx (Bt (a 1) fr n) p)) (nI (nx (Bt (a 1) fr n) p)) w55 (op + 1) 0 fl) _
    refine P0.b GX11_atom3 2 (ob := []) (cf' := (19, [some (.ref 0), some (.int 0)], [.ref 0], hT g a (nI fr) (nI n) (nI (en (Bt (a 1) fr n) (nx (Bt (a 1) fr n) p))) (kd (Bt (a 1) fr n) (nx (Bt (a 1) fr n) p)) (nI (nx (Bt (a 1) fr n) p)) w55 (op + 1) 0 fl)) rfl trivial ?_
    refine P0.cs (as := [.ref 0]) (rest := []) GX11_atom4 kX11_atom3_19 rfl ⟨_, _, rfl, rfl, .inl ⟨_, _, _, _, rfl, rfl⟩⟩ (Nat.le_of_ble_eq_true rfl) (Nat.le_of_ble_eq_true rfl) (P0.mono (e_X11_atom4 hT0 hw55 hp55 (op := op + 1) (by rw [hop]; decide)) (Nat.le_of_ble_eq_true rfl) (Nat.zero_le _) (Nat.zero_le _) (fun _ _ q => q)) (Nat.le_of_ble_eq_true rfl) (fun _ _ q => q.len) ?_
    rintro r1056 h1056 hq56
    have hq56 : QP g a fr n (op + 1) (lvl (sg (Bt (a 1) fr n)) (nx (Bt (a 1) fr n)) (vA g) 1 2 (nx (Bt (a 1) fr n) p)) r1056 h1056 := hq56
    rcases hR56 : lvl (sg (Bt (a 1) fr n)) (nx (Bt (a 1) fr n)) (vA g) 1 2 (nx (Bt (a 1) fr n) p) with q56 | ⟨x56, p56⟩
    · rw [hR56] at hq56
      obtain ⟨v56, e56, tk56, pp56, w56, op56, rfl, rfl⟩ := hq56
      show P0 _ _ _ _ (22, [some (.ref 0), some (.int 0)], [.int v56], hT g a (nI fr) (nI n) e56 tk56 pp56 w56 op56 1 (nI q56)) _
      refine P0.b GX11_atom3 10 (ob := []) (cf' := (162, [some (.ref 0), some (.int (-v56))], [.int (-v56)], hT g a (nI fr) (nI n) e56 tk56 pp56 w56 (op56 - 1) 1 (nI q56))) rfl trivial ?_
      exact P0.ri (by decide +kernel) rfl rfl (QP.no (pone_neg_no h1 hR56) (-v56) e56 tk56 pp56 w56 (op56 - 1))
    · rw [hR56] at hq56
      obtain ⟨w56, fl56, rfl, rfl, hw56, hp56⟩ := hq56
      show P0 _ _ _ _ (22, [some (.ref 0), some (.int 0)], [.int x56], hT g a (nI fr) (nI n) (nI (en (Bt (a 1) fr n) p56)) (kd (Bt (a 1) fr n) p56) (nI p56) w56 (op + 1) 0 fl56) _
      refine P0.b GX11_atom3 10 (ob := []) (cf' := (162, [some (.ref 0), some (.int (-x56))], [.int (-x56)], hT g a (nI fr) (nI n) (nI (en (Bt (a 1) fr n) p56)) (kd (Bt (a 1) fr n) p56) (nI p56) w56 ((op + 1) - 1) 0 fl56)) rfl trivial ?_
      rw [show (op + 1) - 1 = op from by rw [hop]; decide]
      exact P0.ri (by decide +kernel) rfl rfl (QP.yes (pone_neg_yes h1 hR56 rfl) hw56 hp56)
set_option maxHeartbeats 2000000 in
theorem lp_X11_term3 {g : Nat → Int32} {a : Nat → Nat → Int32} {fr n : Nat} (hT0 : TxOK a fr n) {op : Int32} (hop : op = 3) : ∀ (f : Nat) (x : Int32) (p : Nat) (w : Int64) (fl : Int32), wOK (Bt (a 1) fr n) p w → p ≤ n → n ≤ p + f → P0 17 0 0 mX11_term3 (5, [some (.ref 0), some (.int x)], [], hT g a (nI fr) (nI n) (nI (en (Bt (a 1) fr n) p)) (kd (Bt (a 1) fr n) p) (nI p) w op 0 fl) (QP g a fr n op (pch (sg (Bt (a 1) fr n)) (nx (Bt (a 1) fr n)) (vA g).2.2 jTerm (pone (sg (Bt (a 1) fr n)) (nx (Bt (a 1) fr n)) (vA g) true (lvl (sg (Bt (a 1) fr n)) (nx (Bt (a 1) fr n)) (vA g) 1 0) (lvl (sg (Bt (a 1) fr n)) (nx (Bt (a 1) fr n)) (vA g) 1 2)) f x p))
  | 0, x, p, w, fl, hw, hp, hpf => by
    refine P0.b GX11_term3 2 (ob := []) (cf' := (8, [some (.ref 0), some (.int x)], [.int 42, .ref 0], hT g a (nI fr) (nI n) (nI (en (Bt (a 1) fr n) p)) (kd (Bt (a 1) fr n) p) (nI p) w op 0 fl)) rfl trivial ?_
    refine P0.cd (d0 := 0) (as := [.ref 0, .int 42]) (rest := []) (r1 := some (.int (if sg (Bt (a 1) fr n) p = (-18) then 1 else 0))) (h1 := hT g a (nI fr) (nI n) (nI (en (Bt (a 1) fr n) p)) (kd (Bt (a 1) fr n) p) (nI p) w op 0 fl) (st' := [.int (if sg (Bt (a 1) fr n) p = (-18) then 1 else 0)]) GX11_isSign kX11_term3_8 rfl ⟨_, _, rfl, rfl, .inl ⟨_, _, _, _, rfl, rfl⟩⟩ (Nat.le_of_ble_eq_true rfl) (Nat.le_of_ble_eq_true rfl) (e_isSign_ok hw (c := 42) (code := (-18)) (by decide +kernel)) (Nat.le_of_ble_eq_true rfl) rfl (Nat.le_of_ble_eq_true rfl) rfl ?_
    refine P0.b GX11_term3 1 (ob := []) (cf' := (if (if sg (Bt (a 1) fr n) p = (-18) then 1 else 0) = 0 then 28 else 14, [some (.ref 0), some (.int x)], [], hT g a (nI fr) (nI n) (nI (en (Bt (a 1) fr n) p)) (kd (Bt (a 1) fr n) p) (nI p) w op 0 fl)) rfl trivial ?_
    rw [if_neg (show ¬ (sg (Bt (a 1) fr n) p = (-18)) from by rw [sg_end hpf]; decide), if_pos rfl]
    refine P0.b GX11_term3 1 (ob := []) (cf' := (29, [some (.ref 0), some (.int x)], [.int x], hT g a (nI fr) (nI n) (nI (en (Bt (a 1) fr n) p)) (kd (Bt (a 1) fr n) p) (nI p) w op 0 fl)) rfl trivial ?_
    exact P0.ri (by decide +kernel) rfl rfl (QP.yes rfl hw hp)
  | f + 1, x, p, w, fl, hw, hp, hpf => by
    refine P0.b GX11_term3 2 (ob := []) (cf' := (8, [some (.ref 0), some (.int x)], [.int 42, .ref 0], hT g a (nI fr) (nI n) (nI (en (Bt (a 1) fr n) p)) (kd (Bt (a 1) fr n) p) (nI p) w op 0 fl)) rfl trivial ?_
    refine P0.cd (d0 := 0) (as := [.ref 0, .int 42]) (rest := []) (r1 := some (.int (if sg (Bt (a 1) fr n) p = (-18) then 1 else 0))) (h1 := hT g a (nI fr) (nI n) (nI (en (Bt (a 1) fr n) p)) (kd (Bt (a 1) fr n) p) (nI p) w op 0 fl) (st' := [.int (if sg (Bt (a 1) fr n) p = (-18) then 1 else 0)]) GX11_isSign kX11_term3_8 rfl ⟨_, _, rfl, rfl, .inl ⟨_, _, _, _, rfl, rfl⟩⟩ (Nat.le_of_ble_eq_true rfl) (Nat.le_of_ble_eq_true rfl) (e_isSign_ok hw (c := 42) (code := (-18)) (by decide +kernel)) (Nat.le_of_ble_eq_true rfl) rfl (Nat.le_of_ble_eq_true rfl) rfl ?_
    refine P0.b GX11_term3 1 (ob := []) (cf' := (if (if sg (Bt (a 1) fr n) p = (-18) then 1 else 0) = 0 then 28 else 14, [some (.ref 0), some (.int x)], [], hT g a (nI fr) (nI n) (nI (en (Bt (a 1) fr n) p)) (kd (Bt (a 1) fr n) p) (nI p) w op 0 fl)) rfl trivial ?_
    refine P0.ifB (fun h1 => ?_) (fun h1 => ?_)
    · refine P0.b GX11_term3 1 (ob := []) (cf' := (29, [some (.ref 0), some (.int x)], [.int x], hT g a (nI fr) (nI n) (nI (en (Bt (a 1) fr n) p)) (kd (Bt (a 1) fr n) p) (nI p) w op 0 fl)) rfl trivial ?_
      exact P0.ri (by decide +kernel) rfl rfl (QP.yes (pch_stop (show jTerm (sg (Bt (a 1) fr n) p) = false from by simp only [jTerm]; exact decide_eq_false h1)) hw hp)
    · refine P0.b GX11_term3 1 (ob := []) (cf' := (15, [some (.ref 0), some (.int x)], [.ref 0], hT g a (nI fr) (nI n) (nI (en (Bt (a 1) fr n) p)) (kd (Bt (a 1) fr n) p) (nI p) w op 0 fl)) rfl trivial ?_
      refine P0.cs (as := [.ref 0]) (rest := []) GX11_nextToken kX11_term3_15 rfl ⟨_, _, rfl, rfl, .inl ⟨_, _, _, _, rfl, rfl⟩⟩ (Nat.le_of_ble_eq_true rfl) (Nat.le_of_ble_eq_true rfl) (P0.mono (e_X11_nextToken hT0 (en (Bt (a 1) fr n) p) (en_le hp) _ _ _ _ _ _) (Nat.le_of_ble_eq_true rfl) (Nat.zero_le _) (Nat.zero_le _) (fun _ _ q => q)) (Nat.le_of_ble_eq_true rfl) (fun _ _ q => q.len) ?_
      rintro _ _ ⟨w57, rfl, rfl, hw57⟩
      have hp57 := nx_le (f := a 1) (fr := fr) hp
      show P0 _ _ _ _ (18, [some (.ref 0), some (.int x)], [], hT g a (nI fr) (nI n) (nI (en (Bt (a 1) fr n) (nx (Bt (a 1) fr n) p))) (kd (Bt (a 1) fr n) (nx (Bt (a 1) fr n) p)) (nI (nx (Bt (a 1) fr n) p)) w57 op 0 fl) _
      refine P0.b GX11_term3 2 (ob := []) (cf' := (20, [some (.ref 0), some (.int x)], [.ref 0, .int x], hT g a (nI fr) (nI n) (nI (en (Bt (a 1) fr n) (nx (Bt (a 1) fr n) p))) (kd (Bt (a 1) fr n) (nx (Bt (a 1) fr n) p)) (nI (nx (Bt (a 1) fr n) p)) w57 op 0 fl)) rfl trivial ?_
      refine P0.cs (as := [.ref 0]) (rest := [.int x]) GX11_atom3 kX11_term3_20 rfl ⟨_, _, rfl, rfl, .inl ⟨_, _, _, _, rfl, rfl⟩⟩ (Nat.le_of_ble_eq_true rfl) (Nat.le_of_ble_eq_true rfl) (P0.mono (e_X11_atom3 hT0 hw57 hp57 (op := op) hop) (Nat.le_of_ble_eq_true rfl) (Nat.zero_le _) (Nat.zero_le _) (fun _ _ q => q)) (Nat.le_of_ble_eq_true rfl) (fun _ _ q => q.len) ?_
      rintro r1058 h1058 hq58
      have hq58 : QP g a fr n op (pone (sg (Bt (a 1) fr n)) (nx (Bt (a 1) fr n)) (vA g) true (lvl (sg (Bt (a 1) fr n)) (nx (Bt (a 1) fr n)) (vA g) 1 0) (lvl (sg (Bt (a 1) fr n)) (nx (Bt (a 1) fr n)) (vA g) 1 2) (nx (Bt (a 1) fr n) p)) r1058 h1058 := hq58
      rcases hR58 : pone (sg (Bt (a 1) fr n)) (nx (Bt (a 1) fr n)) (vA g) true (lvl (sg (Bt (a 1) fr n)) (nx (Bt (a 1) fr n)) (vA g) 1 0) (lvl (sg (Bt (a 1) fr n)) (nx (Bt (a 1) fr n)) (vA g) 1 2) (nx (Bt (a 1) fr n) p) with q58 | ⟨x58, p58⟩
      · rw [hR58] at hq58
        obtain ⟨v58, e58, tk58, pp58, w58, op58, rfl, rfl⟩ := hq58
        show P0 _ _ _ _ (23, [some (.ref 0), some (.int x)], [.int v58, .int x], hT g a (nI fr) (nI n) e58 tk58 pp58 w58 op58 1 (nI q58)) _
        refine P0.b GX11_term3 3 (ob := []) (cf' := (5, [some (.ref 0), some (.int (x * v58))], [], hT g a (nI fr) (nI n) e58 tk58 pp58 w58 op58 1 (nI q58))) rfl trivial ?_
        refine P0.b GX11_term3 2 (ob := []) (cf' := (8, [some (.ref 0), some (.int (x * v58))], [.int 42, .ref 0], hT g a (nI fr) (nI n) e58 tk58 pp58 w58 op58 1 (nI q58))) rfl trivial ?_
        refine P0.cd (d0 := 0) (as := [.ref 0, .int 42]) (rest := []) (r1 := some (.int 0)) (h1 := hT g a (nI fr) (nI n) e58 tk58 pp58 w58 op58 1 (nI q58)) (st' := [.int 0]) GX11_isSign kX11_term3_8 rfl ⟨_, _, rfl, rfl, .inl ⟨_, _, _, _, rfl, rfl⟩⟩ (Nat.le_of_ble_eq_true rfl) (Nat.le_of_ble_eq_true rfl) (e_isSign_bad (c := 42)) (Nat.le_of_ble_eq_true rfl) rfl (Nat.le_of_ble_eq_true rfl) rfl ?_
        refine P0.b GX11_term3 2 (ob := []) (cf' := (29, [some (.ref 0), some (.int (x * v58))], [.int (x * v58)], hT g a (nI fr) (nI n) e58 tk58 pp58 w58 op58 1 (nI q58))) rfl trivial ?_
        exact P0.ri (by decide +kernel) rfl rfl (QP.no (pch_fail (show jTerm (sg (Bt (a 1) fr n) p) = true from by rw [h1]; decide) hR58) (x * v58) e58 tk58 pp58 w58 op58)
      · rw [hR58] at hq58
        obtain ⟨w58, fl58, rfl, rfl, hw58, hp58⟩ := hq58
        show P0 _ _ _ _ (23, [some (.ref 0), some (.int x)], [.int x58, .int x], hT g a (nI fr) (nI n) (nI (en (Bt (a 1) fr n) p58)) (kd (Bt (a 1) fr n) p58) (nI p58) w58 op 0 fl58) _
        refine P0.b GX11_term3 3 (ob := []) (cf' := (5, [some (.ref 0), some (.int (x * x58))], [], hT g a (nI fr) (nI n) (nI (en (Bt (a 1) fr n) p58)) (kd (Bt (a 1) fr n) p58) (nI p58) w58 op 0 fl58)) rfl trivial ?_
        rw [pch_step (show jTerm (sg (Bt (a 1) fr n) p) = true from by rw [h1]; decide) hR58, show (vA g).2.2 (sg (Bt (a 1) fr n) p) x x58 = (x * x58) from by rw [h1]; rfl]
        exact lp_X11_term3 hT0 hop f _ _ _ _ hw58 hp58 (by have h1 := nx_lt (B := (Bt (a 1) fr n)) (p := p) (by rw [h1]; decide) (by rw [h1]; decide); have h2 := (prog_one nx_lt (prog_lvl nx_lt (vA g) 1 0) (prog_lvl nx_lt (vA g) 1 2)) _ _ _ hR58; omega)
set_option maxHeartbeats 2000000 in
theorem e_X11_term3 {g : Nat → Int32} {a : Nat → Nat → Int32} {fr n : Nat} (hT0 : TxOK a fr n) {p : Nat} {w : Int64} {fl : Int32} (hw : wOK (Bt (a 1) fr n) p w) (hp : p ≤ n) {op : Int32} (hop : op = 3) : P0 17 0 0 mX11_term3 (0, ent 2 [.ref 0], [], hT g a (nI fr) (nI n) (nI (en (Bt (a 1) fr n) p)) (kd (Bt (a 1) fr n) p) (nI p) w op 0 fl) (QP g a fr n op (pterm (sg (Bt (a 1) fr n)) (nx (Bt (a 1) fr n)) (vA g) true (lvl (sg (Bt (a 1) fr n)) (nx (Bt (a 1) fr n)) (vA g) 1 0) (lvl (sg (Bt (a 1) fr n)) (nx (Bt (a 1) fr n)) (vA g) 1 2) p)) := by
  show P0 _ _ _ _ _ (QP g a fr n op (pc0 (sg (Bt (a 1) fr n)) (nx (Bt (a 1) fr n)) (vA g).2.2 jTerm (pone (sg (Bt (a 1) fr n)) (nx (Bt (a 1) fr n)) (vA g) true (lvl (sg (Bt (a 1) fr n)) (nx (Bt (a 1) fr n)) (vA g) 1 0) (lvl (sg (Bt (a 1) fr n)) (nx (Bt (a 1) fr n)) (vA g) 1 2)) p))
  refine P0.b GX11_term3 1 (ob := []) (cf' := (1, [some (.ref 0), none], [.ref 0], hT g a (nI fr) (nI n) (nI (en (Bt (a 1) fr n) p)) (kd (Bt (a 1) fr n) p) (nI p) w op 0 fl)) rfl trivial ?_
  refine P0.cs (as := [.ref 0]) (rest := []) GX11_atom3 kX11_term3_1 rfl ⟨_, _, rfl, rfl, .inl ⟨_, _, _, _, rfl, rfl⟩⟩ (Nat.le_of_ble_eq_true rfl) (Nat.le_of_ble_eq_true rfl) (P0.mono (e_X11_atom3 hT0 hw hp (op := op) hop) (Nat.le_of_ble_eq_true rfl) (Nat.zero_le _) (Nat.zero_le _) (fun _ _ q => q)) (Nat.le_of_ble_eq_true rfl) (fun _ _ q => q.len) ?_
  rintro r1059 h1059 hq59
  have hq59 : QP g a fr n op (pone (sg (Bt (a 1) fr n)) (nx (Bt (a 1) fr n)) (vA g) true (lvl (sg (Bt (a 1) fr n)) (nx (Bt (a 1) fr n)) (vA g) 1 0) (lvl (sg (Bt (a 1) fr n)) (nx (Bt (a 1) fr n)) (vA g) 1 2) p) r1059 h1059 := hq59
  rcases hR59 : pone (sg (Bt (a 1) fr n)) (nx (Bt (a 1) fr n)) (vA g) true (lvl (sg (Bt (a 1) fr n)) (nx (Bt (a 1) fr n)) (vA g) 1 0) (lvl (sg (Bt (a 1) fr n)) (nx (Bt (a 1) fr n)) (vA g) 1 2) p with q59 | ⟨x59, p59⟩
  · rw [hR59] at hq59
    obtain ⟨v59, e59, tk59, pp59, w59, op59, rfl, rfl⟩ := hq59
    show P0 _ _ _ _ (4, [some (.ref 0), none], [.int v59], hT g a (nI fr) (nI n) e59 tk59 pp59 w59 op59 1 (nI q59)) _
    refine P0.b GX11_term3 1 (ob := []) (cf' := (5, [some (.ref 0), some (.int v59)], [], hT g a (nI fr) (nI n) e59 tk59 pp59 w59 op59 1 (nI q59))) rfl trivial ?_
    refine P0.b GX11_term3 2 (ob := []) (cf' := (8, [some (.ref 0), some (.int v59)], [.int 42, .ref 0], hT g a (nI fr) (nI n) e59 tk59 pp59 w59 op59 1 (nI q59))) rfl trivial ?_
    refine P0.cd (d0 := 0) (as := [.ref 0, .int 42]) (rest := []) (r1 := some (.int 0)) (h1 := hT g a (nI fr) (nI n) e59 tk59 pp59 w59 op59 1 (nI q59)) (st' := [.int 0]) GX11_isSign kX11_term3_8 rfl ⟨_, _, rfl, rfl, .inl ⟨_, _, _, _, rfl, rfl⟩⟩ (Nat.le_of_ble_eq_true rfl) (Nat.le_of_ble_eq_true rfl) (e_isSign_bad (c := 42)) (Nat.le_of_ble_eq_true rfl) rfl (Nat.le_of_ble_eq_true rfl) rfl ?_
    refine P0.b GX11_term3 2 (ob := []) (cf' := (29, [some (.ref 0), some (.int v59)], [.int v59], hT g a (nI fr) (nI n) e59 tk59 pp59 w59 op59 1 (nI q59))) rfl trivial ?_
    exact P0.ri (by decide +kernel) rfl rfl (QP.no (pc0_no hR59) v59 e59 tk59 pp59 w59 op59)
  · rw [hR59] at hq59
    obtain ⟨w59, fl59, rfl, rfl, hw59, hp59⟩ := hq59
    show P0 _ _ _ _ (4, [some (.ref 0), none], [.int x59], hT g a (nI fr) (nI n) (nI (en (Bt (a 1) fr n) p59)) (kd (Bt (a 1) fr n) p59) (nI p59) w59 op 0 fl59) _
    refine P0.b GX11_term3 1 (ob := []) (cf' := (5, [some (.ref 0), some (.int x59)], [], hT g a (nI fr) (nI n) (nI (en (Bt (a 1) fr n) p59)) (kd (Bt (a 1) fr n) p59) (nI p59) w59 op 0 fl59)) rfl trivial ?_
    rw [pc0_yes hR59]
    exact lp_X11_term3 hT0 hop 200 _ _ _ _ hw59 hp59 (by have := hT0.2.1; omega)
set_option maxHeartbeats 2000000 in
theorem lp_X11_added3 {g : Nat → Int32} {a : Nat → Nat → Int32} {fr n : Nat} (hT0 : TxOK a fr n) {op : Int32} (hop : op = 3) : ∀ (f : Nat) (x : Int32) (p : Nat) (w : Int64) (fl : Int32), wOK (Bt (a 1) fr n) p w → p ≤ n → n ≤ p + f → P0 18 0 0 mX11_added3 (5, [some (.ref 0), some (.int x), none, none], [], hT g a (nI fr) (nI n) (nI (en (Bt (a 1) fr n) p)) (kd (Bt (a 1) fr n) p) (nI p) w op 0 fl) (QP g a fr n op (pch (sg (Bt (a 1) fr n)) (nx (Bt (a 1) fr n)) (vA g).2.2 jSum (pterm (sg (Bt (a 1) fr n)) (nx (Bt (a 1) fr n)) (vA g) true (lvl (sg (Bt (a 1) fr n)) (nx (Bt (a 1) fr n)) (vA g) 1 0) (lvl (sg (Bt (a 1) fr n)) (nx (Bt (a 1) fr n)) (vA g) 1 2)) f x p))
  | 0, x, p, w, fl, hw, hp, hpf => by
    refine P0.b GX11_added3 2 (ob := []) (cf' := (8, [some (.ref 0), some (.int x), none, none], [.int 43, .ref 0], hT g a (nI fr) (nI n) (nI (en (Bt (a 1) fr n) p)) (kd (Bt (a 1) fr n) p) (nI p) w op 0 fl)) rfl trivial ?_
    refine P0.cd (d0 := 0) (as := [.ref 0, .int 43]) (rest := []) (r1 := some (.int (if sg (Bt (a 1) fr n) p = (-16) then 1 else 0))) (h1 := hT g a (nI fr) (nI n) (nI (en (Bt (a 1) fr n) p)) (kd (Bt (a 1) fr n) p) (nI p) w op 0 fl) (st' := [.int (if sg (Bt (a 1) fr n) p = (-16) then 1 else 0)]) GX11_isSign kX11_added3_8 rfl ⟨_, _, rfl, rfl, .inl ⟨_, _, _, _, rfl, rfl⟩⟩ (Nat.le_of_ble_eq_true rfl) (Nat.le_of_ble_eq_true rfl) (e_isSign_ok hw (c := 43) (code := (-16)) (by decide +kernel)) (Nat.le_of_ble_eq_true rfl) rfl (Nat.le_of_ble_eq_true rfl) rfl ?_
    refine P0.b GX11_added3 1 (ob := []) (cf' := (if (if sg (Bt (a 1) fr n) p = (-16) then 1 else 0) = 0 then 14 else 23, [some (.ref 0), some (.int x), none, none], [], hT g a (nI fr) (nI n) (nI (en (Bt (a 1) fr n) p)) (kd (Bt (a 1) fr n) p) (nI p) w op 0 fl)) rfl trivial ?_
    rw [if_neg (show ¬ (sg (Bt (a 1) fr n) p = (-16)) from by rw [sg_end hpf]; decide), if_pos rfl]
    refine P0.b GX11_added3 2 (ob := []) (cf' := (17, [some (.ref 0), some (.int x), none, none], [.int 45, .ref 0], hT g a (nI fr) (nI n) (nI (en (Bt (a 1) fr n) p)) (kd (Bt (a 1) fr n) p) (nI p) w op 0 fl)) rfl trivial ?_
    refine P0.cd (d0 := 0) (as := [.ref 0, .int 45]) (rest := []) (r1 := some (.int (if sg (Bt (a 1) fr n) p = (-17) then 1 else 0))) (h1 := hT g a (nI fr) (nI n) (nI (en (Bt (a 1) fr n) p)) (kd (Bt (a 1) fr n) p) (nI p) w op 0 fl) (st' := [.int (if sg (Bt (a 1) fr n) p = (-17) then 1 else 0)]) GX11_isSign kX11_added3_17 rfl ⟨_, _, rfl, rfl, .inl ⟨_, _, _, _, rfl, rfl⟩⟩ (Nat.le_of_ble_eq_true rfl) (Nat.le_of_ble_eq_true rfl) (e_isSign_ok hw (c := 45) (code := (-17)) (by decide +kernel)) (Nat.le_of_ble_eq_true rfl) rfl (Nat.le_of_ble_eq_true rfl) rfl ?_
    refine P0.b GX11_added3 1 (ob := []) (cf' := (if (if sg (Bt (a 1) fr n) p = (-17) then 1 else 0) = 0 then 66 else 23, [some (.ref 0), some (.int x), none, none], [], hT g a (nI fr) (nI n) (nI (en (Bt (a 1) fr n) p)) (kd (Bt (a 1) fr n) p) (nI p) w op 0 fl)) rfl trivial ?_
    rw [if_neg (show ¬ (sg (Bt (a 1) fr n) p = (-17)) from by rw [sg_end hpf]; decide), if_pos rfl]
    refine P0.b GX11_added3 1 (ob := []) (cf' := (67, [some (.ref 0), some (.int x), none, none], [.int x], hT g a (nI fr) (nI n) (nI (en (Bt (a 1) fr n) p)) (kd (Bt (a 1) fr n) p) (nI p) w op 0 fl)) rfl trivial ?_
    exact P0.ri (by decide +kernel) rfl rfl (QP.yes rfl hw hp)
  | f + 1, x, p, w, fl, hw, hp, hpf => by
    refine P0.b GX11_added3 2 (ob := []) (cf' := (8, [some (.ref 0), some (.int x), none, none], [.int 43, .ref 0], hT g a (nI fr) (nI n) (nI (en (Bt (a 1) fr n) p)) (kd (Bt (a 1) fr n) p) (nI p) w op 0 fl)) rfl trivial ?_
    refine P0.cd (d0 := 0) (as := [.ref 0, .int 43]) (rest := []) (r1 := some (.int (if sg (Bt (a 1) fr n) p = (-16) then 1 else 0))) (h1 := hT g a (nI fr) (nI n) (nI (en (Bt (a 1) fr n) p)) (kd (Bt (a 1) fr n) p) (nI p) w op 0 fl) (st' := [.int (if sg (Bt (a 1) fr n) p = (-16) then 1 else 0)]) GX11_isSign kX11_added3_8 rfl ⟨_, _, rfl, rfl, .inl ⟨_, _, _, _, rfl, rfl⟩⟩ (Nat.le_of_ble_eq_true rfl) (Nat.le_of_ble_eq_true rfl) (e_isSign_ok hw (c := 43) (code := (-16)) (by decide +kernel)) (Nat.le_of_ble_eq_true rfl) rfl (Nat.le_of_ble_eq_true rfl) rfl ?_
    refine P0.b GX11_added3 1 (ob := []) (cf' := (if (if sg (Bt (a 1) fr n) p = (-16) then 1 else 0) = 0 then 14 else 23, [some (.ref 0), some (.int x), none, none], [], hT g a (nI fr) (nI n) (nI (en (Bt (a 1) fr n) p)) (kd (Bt (a 1) fr n) p) (nI p) w op 0 fl)) rfl trivial ?_
    refine P0.ifB (fun h1 => ?_) (fun h1 => ?_)
    · refine P0.b GX11_added3 2 (ob := []) (cf' := (17, [some (.ref 0), some (.int x), none, none], [.int 45, .ref 0], hT g a (nI fr) (nI n) (nI (en (Bt (a 1) fr n) p)) (kd (Bt (a 1) fr n) p) (nI p) w op 0 fl)) rfl trivial ?_
      refine P0.cd (d0 := 0) (as := [.ref 0, .int 45]) (rest := []) (r1 := some (.int (if sg (Bt (a 1) fr n) p = (-17) then 1 else 0))) (h1 := hT g a (nI fr) (nI n) (nI (en (Bt (a 1) fr n) p)) (kd (Bt (a 1) fr n) p) (nI p) w op 0 fl) (st' := [.int (if sg (Bt (a 1) fr n) p = (-17) then 1 else 0)]) GX11_isSign kX11_added3_17 rfl ⟨_, _, rfl, rfl, .inl ⟨_, _, _, _, rfl, rfl⟩⟩ (Nat.le_of_ble_eq_true rfl) (Nat.le_of_ble_eq_true rfl) (e_isSign_ok hw (c := 45) (code := (-17)) (by decide +kernel)) (Nat.le_of_ble_eq_true rfl) rfl (Nat.le_of_ble_eq_true rfl) rfl ?_
      refine P0.b GX11_added3 1 (ob := []) (cf' := (if (if sg (Bt (a 1) fr n) p = (-17) then 1 else 0) = 0 then 66 else 23, [some (.ref 0), some (.int x), none, none], [], hT g a (nI fr) (nI n) (nI (en (Bt (a 1) fr n) p)) (kd (Bt (a 1) fr n) p) (nI p) w op 0 fl)) rfl trivial ?_
      refine P0.ifB (fun h2 => ?_) (fun h2 => ?_)
      · refine P0.b GX11_added3 1 (ob := []) (cf' := (67, [some (.ref 0), some (.int x), none, none], [.int x], hT g a (nI fr) (nI n) (nI (en (Bt (a 1) fr n) p)) (kd (Bt (a 1) fr n) p) (nI p) w op 0 fl)) rfl trivial ?_
        exact P0.ri (by decide +kernel) rfl rfl (QP.yes (pch_stop (show jSum (sg (Bt (a 1) fr n) p) = false from by simp only [jSum]; exact decide_eq_false (fun z => z.elim h1 h2))) hw hp)
      · refine P0.b GX11_added3 5 (ob := []) (cf' := (if lg_cmp w 43 = 0 then 34 else 38, [some (.ref 0), some (.int x), none, none], [], hT g a (nI fr) (nI n) (nI (en (Bt (a 1) fr n) p)) (kd (Bt (a 1) fr n) p) (nI p) w op 0 fl)) rfl trivial ?_
        rw [if_neg (show ¬ (lg_cmp w 43 = 0) from by rw [sB_of (c := 45) (code := -17) (by decide +kernel) h2 hw]; decide)]
        refine P0.b GX11_added3 3 (ob := []) (cf' := (41, [some (.ref 0), some (.int x), some (.int 0), none], [.ref 0], hT g a (nI fr) (nI n) (nI (en (Bt (a 1) fr n) p)) (kd (Bt (a 1) fr n) p) (nI p) w op 0 fl)) rfl trivial ?_
        refine P0.cs (as := [.ref 0]) (rest := []) GX11_nextToken kX11_added3_41 rfl ⟨_, _, rfl, rfl, .inl ⟨_, _, _, _, rfl, rfl⟩⟩ (Nat.le_of_ble_eq_true rfl) (Nat.le_of_ble_eq_true rfl) (P0.mono (e_X11_nextToken hT0 (en (Bt (a 1) fr n) p) (en_le hp) _ _ _ _ _ _) (Nat.le_of_ble_eq_true rfl) (Nat.zero_le _) (Nat.zero_le _) (fun _ _ q => q)) (Nat.le_of_ble_eq_true rfl) (fun _ _ q => q.len) ?_
        rintro _ _ ⟨w60, rfl, rfl, hw60⟩
        have hp60 := nx_le (f := a 1) (fr := fr) hp
        show P0 _ _ _ _ (44, [some (.ref 0), some (.int x), some (.int 0), none], [], hT g a (nI fr) (nI n) (nI (en (Bt (a 1) fr n) (nx (Bt (a 1) fr n) p))) (kd (Bt (a 1) fr n) (nx (Bt (a 1) fr n) p)) (nI (nx (Bt (a 1) fr n) p)) w60 op 0 fl) _
        refine P0.b GX11_added3 1 (ob := []) (cf' := (45, [some (.ref 0), some (.int x), some (.int 0), none], [.ref 0], hT g a (nI fr) (nI n) (nI (en (Bt (a 1) fr n) (nx (Bt (a 1) fr n) p))) (kd (Bt (a 1) fr n) (nx (Bt (a 1) fr n) p)) (nI (nx (Bt (a 1) fr n) p)) w60 op 0 fl)) rfl trivial ?_
        refine P0.cs (as := [.ref 0]) (rest := []) GX11_term3 kX11_added3_45 rfl ⟨_, _, rfl, rfl, .inl ⟨_, _, _, _, rfl, rfl⟩⟩ (Nat.le_of_ble_eq_true rfl) (Nat.le_of_ble_eq_true rfl) (P0.mono (e_X11_term3 hT0 hw60 hp60 (op := op) hop) (Nat.le_of_ble_eq_true rfl) (Nat.zero_le _) (Nat.zero_le _) (fun _ _ q => q)) (Nat.le_of_ble_eq_true rfl) (fun _ _ q => q.len) ?_
        rintro r1061 h1061 hq61
        have hq61 : QP g a fr n op (pterm (sg (Bt (a 1) fr n)) (nx (Bt (a 1) fr n)) (vA g) true (lvl (sg (Bt (a 1) fr n)) (nx (Bt (a 1) fr n)) (vA g) 1 0) (lvl (sg (Bt (a 1) fr n)) (nx (Bt (a 1) fr n)) (vA g) 1 2) (nx (Bt (a 1) fr n) p)) r1061 h1061 := hq61
        rcases hR61 : pterm (sg (Bt (a 1) fr n)) (nx (Bt (a 1) fr n)) (vA g) true (lvl (sg (Bt (a 1) fr n)) (nx (Bt (a 1) fr n)) (vA g) 1 0) (lvl (sg (Bt (a 1) fr n)) (nx (Bt (a 1) fr n)) (vA g) 1 2) (nx (Bt (a 1) fr n) p) with q61 | ⟨x61, p61⟩
        · rw [hR61] at hq61
          obtain ⟨v61, e61, tk61, pp61, w61, op61, rfl, rfl⟩ := hq61
          show P0 _ _ _ _ (48, [some (.ref 0), some (.int x), some (.int 0), none], [.int v61], hT g a (nI fr) (nI n) e61 tk61 pp61 w61 op61 1 (nI q61)) _
          refine P0.b GX11_added3 8 (ob := []) (cf' := (5, [some (.ref 0), some (.int (x - v61)), some (.int 0), some (.int v61)], [], hT g a (nI fr) (nI n) e61 tk61 pp61 w61 op61 1 (nI q61))) rfl trivial ?_
          refine P0.b GX11_added3 2 (ob := []) (cf' := (8, [some (.ref 0), some (.int (x - v61)), some (.int 0), some (.int v61)], [.int 43, .ref 0], hT g a (nI fr) (nI n) e61 tk61 pp61 w61 op61 1 (nI q61))) rfl trivial ?_
          refine P0.cd (d0 := 0) (as := [.ref 0, .int 43]) (rest := []) (r1 := some (.int 0)) (h1 := hT g a (nI fr) (nI n) e61 tk61 pp61 w61 op61 1 (nI q61)) (st' := [.int 0]) GX11_isSign kX11_added3_8 rfl ⟨_, _, rfl, rfl, .inl ⟨_, _, _, _, rfl, rfl⟩⟩ (Nat.le_of_ble_eq_true rfl) (Nat.le_of_ble_eq_true rfl) (e_isSign_bad (c := 43)) (Nat.le_of_ble_eq_true rfl) rfl (Nat.le_of_ble_eq_true rfl) rfl ?_
          refine P0.b GX11_added3 3 (ob := []) (cf' := (17, [some (.ref 0), some (.int (x - v61)), some (.int 0), some (.int v61)], [.int 45, .ref 0], hT g a (nI fr) (nI n) e61 tk61 pp61 w61 op61 1 (nI q61))) rfl trivial ?_
          refine P0.cd (d0 := 0) (as := [.ref 0, .int 45]) (rest := []) (r1 := some (.int 0)) (h1 := hT g a (nI fr) (nI n) e61 tk61 pp61 w61 op61 1 (nI q61)) (st' := [.int 0]) GX11_isSign kX11_added3_17 rfl ⟨_, _, rfl, rfl, .inl ⟨_, _, _, _, rfl, rfl⟩⟩ (Nat.le_of_ble_eq_true rfl) (Nat.le_of_ble_eq_true rfl) (e_isSign_bad (c := 45)) (Nat.le_of_ble_eq_true rfl) rfl (Nat.le_of_ble_eq_true rfl) rfl ?_
          refine P0.b GX11_added3 2 (ob := []) (cf' := (67, [some (.ref 0), some (.int (x - v61)), some (.int 0), some (.int v61)], [.int (x - v61)], hT g a (nI fr) (nI n) e61 tk61 pp61 w61 op61 1 (nI q61))) rfl trivial ?_
          exact P0.ri (by decide +kernel) rfl rfl (QP.no (pch_fail (show jSum (sg (Bt (a 1) fr n) p) = true from by rw [h2]; decide) hR61) (x - v61) e61 tk61 pp61 w61 op61)
        · rw [hR61] at hq61
          obtain ⟨w61, fl61, rfl, rfl, hw61, hp61⟩ := hq61
          show P0 _ _ _ _ (48, [some (.ref 0), some (.int x), some (.int 0), none], [.int x61], hT g a (nI fr) (nI n) (nI (en (Bt (a 1) fr n) p61)) (kd (Bt (a 1) fr n) p61) (nI p61) w61 op 0 fl61) _
          refine P0.b GX11_added3 8 (ob := []) (cf' := (5, [some (.ref 0), some (.int (x - x61)), some (.int 0), some (.int x61)], [], hT g a (nI fr) (nI n) (nI (en (Bt (a 1) fr n) p61)) (kd (Bt (a 1) fr n) p61) (nI p61) w61 op 0 fl61)) rfl trivial ?_
          rw [pch_step (show jSum (sg (Bt (a 1) fr n) p) = true from by rw [h2]; decide) hR61, show (vA g).2.2 (sg (Bt (a 1) fr n) p) x x61 = (x - x61) from by rw [h2]; rfl]
          refine P0.forget (ls' := [some (.ref 0), some (.int (x - x61)), none, none]) ⟨.inr rfl, .inr rfl, .inl rfl, .inl rfl, trivial⟩ ?_
          exact lp_X11_added3 hT0 hop f _ _ _ _ hw61 hp61 (by have h1 := nx_lt (B := (Bt (a 1) fr n)) (p := p) (by rw [h2]; decide) (by rw [h2]; decide); have h2 := (prog_c0 nx_lt jT_ok (prog_one nx_lt (prog_lvl nx_lt (vA g) 1 0) (prog_lvl nx_lt (vA g) 1 2))) _ _ _ hR61; omega)
    · refine P0.b GX11_added3 5 (ob := []) (cf' := (if lg_cmp w 43 = 0 then 34 else 38, [some (.ref 0), some (.int x), none, none], [], hT g a (nI fr) (nI n) (nI (en (Bt (a 1) fr n) p)) (kd (Bt (a 1) fr n) p) (nI p) w op 0 fl)) rfl trivial ?_
      rw [if_pos (show lg_cmp w 43 = 0 from (lgc_eq _ _).mpr (sB_of (c := 43) (code := -16) (by decide +kernel) h1 hw))]
      refine P0.b GX11_added3 4 (ob := []) (cf' := (41, [some (.ref 0), some (.int x), some (.int 1), none], [.ref 0], hT g a (nI fr) (nI n) (nI (en (Bt (a 1) fr n) p)) (kd (Bt (a 1) fr n) p) (nI p) w op 0 fl)) rfl trivial ?_
      refine P0.cs (as := [.ref 0]) (rest := []) GX11_nextToken kX11_added3_41 rfl ⟨_, _, rfl, rfl, .inl ⟨_, _, _, _, rfl, rfl⟩⟩ (Nat.le_of_ble_eq_true rfl) (Nat.le_of_ble_eq_true rfl) (P0.mono (e_X11_nextToken hT0 (en (Bt (a 1) fr n) p) (en_le hp) _ _ _ _ _ _) (Nat.le_of_ble_eq_true rfl) (Nat.zero_le _) (Nat.zero_le _) (fun _ _ q => q)) (Nat.le_of_ble_eq_true rfl) (fun _ _ q => q.len) ?_
      rintro _ _ ⟨w62, rfl, rfl, hw62⟩
      have hp62 := nx_le (f := a 1) (fr := fr) hp
      show P0 _ _ _ _ (44, [some (.ref 0), some (.int x), some (.int 1), none], [], hT g a (nI fr) (nI n) (nI (en (Bt (a 1) fr n) (nx (Bt (a 1) fr n) p))) (kd (Bt (a 1) fr n) (nx (Bt (a 1) fr n) p)) (nI (nx (Bt (a 1) fr n) p)) w62 op 0 fl) _
      refine P0.b GX11_added3 1 (ob := []) (cf' := (45, [some (.ref 0), some (.int x), some (.int 1), none], [.ref 0], hT g a (nI fr) (nI n) (nI (en (Bt (a 1) fr n) (nx (Bt (a 1) fr n) p))) (kd (Bt (a 1) fr n) (nx (Bt (a 1) fr n) p)) (nI (nx (Bt (a 1) fr n) p)) w62 op 0 fl)) rfl trivial ?_
      refine P0.cs (as := [.ref 0]) (rest := []) GX11_term3 kX11_added3_45 rfl ⟨_, _, rfl, rfl, .inl ⟨_, _, _, _, rfl, rfl⟩⟩ (Nat.le_of_ble_eq_true rfl) (Nat.le_of_ble_eq_true rfl) (P0.mono (e_X11_term3 hT0 hw62 hp62 (op := op) hop) (Nat.le_of_ble_eq_true rfl) (Nat.zero_le _) (Nat.zero_le _) (fun _ _ q => q)) (Nat.le_of_ble_eq_true rfl) (fun _ _ q => q.len) ?_
      rintro r1063 h1063 hq63
      have hq63 : QP g a fr n op (pterm (sg (Bt (a 1) fr n)) (nx (Bt (a 1) fr n)) (vA g) true (lvl (sg (Bt (a 1) fr n)) (nx (Bt (a 1) fr n)) (vA g) 1 0) (lvl (sg (Bt (a 1) fr n)) (nx (Bt (a 1) fr n)) (vA g) 1 2) (nx (Bt (a 1) fr n) p)) r1063 h1063 := hq63
      rcases hR63 : pterm (sg (Bt (a 1) fr n)) (nx (Bt (a 1) fr n)) (vA g) true (lvl (sg (Bt (a 1) fr n)) (nx (Bt (a 1) fr n)) (vA g) 1 0) (lvl (sg (Bt (a 1) fr n)) (nx (Bt (a 1) fr n)) (vA g) 1 2) (nx (Bt (a 1) fr n) p) with q63 | ⟨x63, p63⟩
      · rw [hR63] at hq63
        obtain ⟨v63, e63, tk63, pp63, w63, op63, rfl, rfl⟩ := hq63
        show P0 _ _ _ _ (48, [some (.ref 0), some (.int x), some (.int 1), none], [.int v63], hT g a (nI fr) (nI n) e63 tk63 pp63 w63 op63 1 (nI q63)) _
        refine P0.b GX11_added3 9 (ob := []) (cf' := (5, [some (.ref 0), some (.int (x + v63)), some (.int 1), some (.int v63)], [], hT g a (nI fr) (nI n) e63 tk63 pp63 w63 op63 1 (nI q63))) rfl trivial ?_
        refine P0.b GX11_added3 2 (ob := []) (cf' := (8, [some (.ref 0), some (.int (x + v63)), some (.int 1), some (.int v63)], [.int 43, .ref 0], hT g a (nI fr) (nI n) e63 tk63 pp63 w63 op63 1 (nI q63))) rfl trivial ?_
        refine P0.cd (d0 := 0) (as := [.ref 0, .int 43]) (rest := []) (r1 := some (.int 0)) (h1 := hT g a (nI fr) (nI n) e63 tk63 pp63 w63 op63 1 (nI q63)) (st' := [.int 0]) GX11_isSign kX11_added3_8 rfl ⟨_, _, rfl, rfl, .inl ⟨_, _, _, _, rfl, rfl⟩⟩ (Nat.le_of_ble_eq_true rfl) (Nat.le_of_ble_eq_true rfl) (e_isSign_bad (c := 43)) (Nat.le_of_ble_eq_true rfl) rfl (Nat.le_of_ble_eq_true rfl) rfl ?_
        refine P0.b GX11_added3 3 (ob := []) (cf' := (17, [some (.ref 0), some (.int (x + v63)), some (.int 1), some (.int v63)], [.int 45, .ref 0], hT g a (nI fr) (nI n) e63 tk63 pp63 w63 op63 1 (nI q63))) rfl trivial ?_
        refine P0.cd (d0 := 0) (as := [.ref 0, .int 45]) (rest := []) (r1 := some (.int 0)) (h1 := hT g a (nI fr) (nI n) e63 tk63 pp63 w63 op63 1 (nI q63)) (st' := [.int 0]) GX11_isSign kX11_added3_17 rfl ⟨_, _, rfl, rfl, .inl ⟨_, _, _, _, rfl, rfl⟩⟩ (Nat.le_of_ble_eq_true rfl) (Nat.le_of_ble_eq_true rfl) (e_isSign_bad (c := 45)) (Nat.le_of_ble_eq_true rfl) rfl (Nat.le_of_ble_eq_true rfl) rfl ?_
        refine P0.b GX11_added3 2 (ob := []) (cf' := (67, [some (.ref 0), some (.int (x + v63)), some (.int 1), some (.int v63)], [.int (x + v63)], hT g a (nI fr) (nI n) e63 tk63 pp63 w63 op63 1 (nI q63))) rfl trivial ?_
        exact P0.ri (by decide +kernel) rfl rfl (QP.no (pch_fail (show jSum (sg (Bt (a 1) fr n) p) = true from by rw [h1]; decide) hR63) (x + v63) e63 tk63 pp63 w63 op63)
      · rw [hR63] at hq63
        obtain ⟨w63, fl63, rfl, rfl, hw63, hp63⟩ := hq63
        show P0 _ _ _ _ (48, [some (.ref 0), some (.int x), some (.int 1), none], [.int x63], hT g a (nI fr) (nI n) (nI (en (Bt (a 1) fr n) p63)) (kd (Bt (a 1) fr n) p63) (nI p63) w63 op 0 fl63) _
        refine P0.b GX11_added3 9 (ob := []) (cf' := (5, [some (.ref 0), some (.int (x + x63)), some (.int 1), some (.int x63)], [], hT g a (nI fr) (nI n) (nI (en (Bt (a 1) fr n) p63)) (kd (Bt (a 1) fr n) p63) (nI p63) w63 op 0 fl63)) rfl trivial ?_
        rw [pch_step (show jSum (sg (Bt (a 1) fr n) p) = true from by rw [h1]; decide) hR63, show (vA g).2.2 (sg (Bt (a 1) fr n) p) x x63 = (x + x63) from by rw [h1]; rfl]
        refine P0.forget (ls' := [some (.ref 0), some (.int (x + x63)), none, none]) ⟨.inr rfl, .inr rfl, .inl rfl, .inl rfl, trivial⟩ ?_
        exact lp_X11_added3 hT0 hop f _ _ _ _ hw63 hp63 (by have h1 := nx_lt (B := (Bt (a 1) fr n)) (p := p) (by rw [h1]; decide) (by rw [h1]; decide); have h2 := (prog_c0 nx_lt jT_ok (prog_one nx_lt (prog_lvl nx_lt (vA g) 1 0) (prog_lvl nx_lt (vA g) 1 2))) _ _ _ hR63; omega)
set_option maxHeartbeats 2000000 in
theorem e_X11_added3 {g : Nat → Int32} {a : Nat → Nat → Int32} {fr n : Nat} (hT0 : TxOK a fr n) {p : Nat} {w : Int64} {fl : Int32} (hw : wOK (Bt (a 1) fr n) p w) (hp : p ≤ n) {op : Int32} (hop : op = 3) : P0 18 0 0 mX11_added3 (0, ent 4 [.ref 0], [], hT g a (nI fr) (nI n) (nI (en (Bt (a 1) fr n) p)) (kd (Bt (a 1) fr n) p) (nI p) w op 0 fl) (QP g a fr n op (psum (sg (Bt (a 1) fr n)) (nx (Bt (a 1) fr n)) (vA g) true (lvl (sg (Bt (a 1) fr n)) (nx (Bt (a 1) fr n)) (vA g) 1 0) (lvl (sg (Bt (a 1) fr n)) (nx (Bt (a 1) fr n)) (vA g) 1 2) p)) := by
  show P0 _ _ _ _ _ (QP g a fr n op (pc0 (sg (Bt (a 1) fr n)) (nx (Bt (a 1) fr n)) (vA g).2.2 jSum (pterm (sg (Bt (a 1) fr n)) (nx (Bt (a 1) fr n)) (vA g) true (lvl (sg (Bt (a 1) fr n)) (nx (Bt (a 1) fr n)) (vA g) 1 0) (lvl (sg (Bt (a 1) fr n)) (nx (Bt (a 1) fr n)) (vA g) 1 2)) p))
  refine P0.b GX11_added3 1 (ob := []) (cf' := (1, [some (.ref 0), none, none, none], [.ref 0], hT g a (nI fr) (nI n) (nI (en (Bt (a 1) fr n) p)) (kd (Bt (a 1) fr n) p) (nI p) w op 0 fl)) rfl trivial ?_
  refine P0.cs (as := [.ref 0]) (rest := []) GX11_term3 kX11_added3_1 rfl ⟨_, _, rfl, rfl, .inl ⟨_, _, _, _, rfl, rfl⟩⟩ (Nat.le_of_ble_eq_true rfl) (Nat.le_of_ble_eq_true rfl) (P0.mono (e_X11_term3 hT0 hw hp (op := op) hop) (Nat.le_of_ble_eq_true rfl) (Nat.zero_le _) (Nat.zero_le _) (fun _ _ q => q)) (Nat.le_of_ble_eq_true rfl) (fun _ _ q => q.len) ?_
  rintro r1064 h1064 hq64
  have hq64 : QP g a fr n op (pterm (sg (Bt (a 1) fr n)) (nx (Bt (a 1) fr n)) (vA g) true (lvl (sg (Bt (a 1) fr n)) (nx (Bt (a 1) fr n)) (vA g) 1 0) (lvl (sg (Bt (a 1) fr n)) (nx (Bt (a 1) fr n)) (vA g) 1 2) p) r1064 h1064 := hq64
  rcases hR64 : pterm (sg (Bt (a 1) fr n)) (nx (Bt (a 1) fr n)) (vA g) true (lvl (sg (Bt (a 1) fr n)) (nx (Bt (a 1) fr n)) (vA g) 1 0) (lvl (sg (Bt (a 1) fr n)) (nx (Bt (a 1) fr n)) (vA g) 1 2) p with q64 | ⟨x64, p64⟩
  · rw [hR64] at hq64
    obtain ⟨v64, e64, tk64, pp64, w64, op64, rfl, rfl⟩ := hq64
    show P0 _ _ _ _ (4, [some (.ref 0), none, none, none], [.int v64], hT g a (nI fr) (nI n) e64 tk64 pp64 w64 op64 1 (nI q64)) _
    refine P0.b GX11_added3 1 (ob := []) (cf' := (5, [some (.ref 0), some (.int v64), none, none], [], hT g a (nI fr) (nI n) e64 tk64 pp64 w64 op64 1 (nI q64))) rfl trivial ?_
    refine P0.b GX11_added3 2 (ob := []) (cf' := (8, [some (.ref 0), some (.int v64), none, none], [.int 43, .ref 0], hT g a (nI fr) (nI n) e64 tk64 pp64 w64 op64 1 (nI q64))) rfl trivial ?_
    refine P0.cd (d0 := 0) (as := [.ref 0, .int 43]) (rest := []) (r1 := some (.int 0)) (h1 := hT g a (nI fr) (nI n) e64 tk64 pp64 w64 op64 1 (nI q64)) (st' := [.int 0]) GX11_isSign kX11_added3_8 rfl ⟨_, _, rfl, rfl, .inl ⟨_, _, _, _, rfl, rfl⟩⟩ (Nat.le_of_ble_eq_true rfl) (Nat.le_of_ble_eq_true rfl) (e_isSign_bad (c := 43)) (Nat.le_of_ble_eq_true rfl) rfl (Nat.le_of_ble_eq_true rfl) rfl ?_
    refine P0.b GX11_added3 3 (ob := []) (cf' := (17, [some (.ref 0), some (.int v64), none, none], [.int 45, .ref 0], hT g a (nI fr) (nI n) e64 tk64 pp64 w64 op64 1 (nI q64))) rfl trivial ?_
    refine P0.cd (d0 := 0) (as := [.ref 0, .int 45]) (rest := []) (r1 := some (.int 0)) (h1 := hT g a (nI fr) (nI n) e64 tk64 pp64 w64 op64 1 (nI q64)) (st' := [.int 0]) GX11_isSign kX11_added3_17 rfl ⟨_, _, rfl, rfl, .inl ⟨_, _, _, _, rfl, rfl⟩⟩ (Nat.le_of_ble_eq_true rfl) (Nat.le_of_ble_eq_true rfl) (e_isSign_bad (c := 45)) (Nat.le_of_ble_eq_true rfl) rfl (Nat.le_of_ble_eq_true rfl) rfl ?_
    refine P0.b GX11_added3 2 (ob := []) (cf' := (67, [some (.ref 0), some (.int v64), none, none], [.int v64], hT g a (nI fr) (nI n) e64 tk64 pp64 w64 op64 1 (nI q64))) rfl trivial ?_
    exact P0.ri (by decide +kernel) rfl rfl (QP.no (pc0_no hR64) v64 e64 tk64 pp64 w64 op64)
  · rw [hR64] at hq64
    obtain ⟨w64, fl64, rfl, rfl, hw64, hp64⟩ := hq64
    show P0 _ _ _ _ (4, [some (.ref 0), none, none, none], [.int x64], hT g a (nI fr) (nI n) (nI (en (Bt (a 1) fr n) p64)) (kd (Bt (a 1) fr n) p64) (nI p64) w64 op 0 fl64) _
    refine P0.b GX11_added3 1 (ob := []) (cf' := (5, [some (.ref 0), some (.int x64), none, none], [], hT g a (nI fr) (nI n) (nI (en (Bt (a 1) fr n) p64)) (kd (Bt (a 1) fr n) p64) (nI p64) w64 op 0 fl64)) rfl trivial ?_
    rw [pc0_yes hR64]
    exact lp_X11_added3 hT0 hop 200 _ _ _ _ hw64 hp64 (by have := hT0.2.1; omega)
set_option maxHeartbeats 2000000 in
theorem e_X11_not3 {g : Nat → Int32} {a : Nat → Nat → Int32} {fr n : Nat} (hT0 : TxOK a fr n) {p : Nat} {w : Int64} {fl : Int32} (hw : wOK (Bt (a 1) fr n) p w) (hp : p ≤ n) {op : Int32} (hop : op = 3) : P0 19 0 0 mX11_not3 (0, ent 4 [.ref 0], [], hT g a (nI fr) (nI n) (nI (en (Bt (a 1) fr n) p)) (kd (Bt (a 1) fr n) p) (nI p) w op 0 fl) (QP g a fr n op (lvl (sg (Bt (a 1) fr n)) (nx (Bt (a 1) fr n)) (vA g) 2 1 p)) := by
  show P0 _ _ _ _ _ (QP g a fr n op (pnot (sg (Bt (a 1) fr n)) (nx (Bt (a 1) fr n)) (vA g) true (lvl (sg (Bt (a 1) fr n)) (nx (Bt (a 1) fr n)) (vA g) 1 0) (lvl (sg (Bt (a 1) fr n)) (nx (Bt (a 1) fr n)) (vA g) 1 1) (lvl (sg (Bt (a 1) fr n)) (nx (Bt (a 1) fr n)) (vA g) 1 2) p))
  refine P0.b GX11_not3 9 (ob := []) (cf' := (12, [some (.ref 0), none, none, none], [.int 0, .int 0, .int 0, .int 0, .int 0, .int 116, .int 111, .int 110, .ref 0], hT g a (nI fr) (nI n) (nI (en (Bt (a 1) fr n) p)) (kd (Bt (a 1) fr n) p) (nI p) w op 0 fl)) rfl trivial ?_
  refine P0.cd (d0 := 2) (as := [.ref 0, .int 110, .int 111, .int 116, .int 0, .int 0, .int 0, .int 0, .int 0]) (rest := []) (r1 := some (.int (if sg (Bt (a 1) fr n) p = (-12) then 1 else 0))) (h1 := hT g a (nI fr) (nI n) (nI (en (Bt (a 1) fr n) p)) (kd (Bt (a 1) fr n) p) (nI p) w op 0 fl) (st' := [.int (if sg (Bt (a 1) fr n) p = (-12) then 1 else 0)]) GX11_isWord kX11_not3_12 rfl ⟨_, _, rfl, rfl, .inl ⟨_, _, _, _, rfl, rfl⟩⟩ (Nat.le_of_ble_eq_true rfl) (Nat.le_of_ble_eq_true rfl) (e_isWord_ok hT0 hp (cs := [110, 111, 116]) (code := (-12)) (by decide +kernel) (by decide) (by decide)) (Nat.le_of_ble_eq_true rfl) rfl (Nat.le_of_ble_eq_true rfl) rfl ?_
  refine P0.b GX11_not3 1 (ob := []) (cf' := (if (if sg (Bt (a 1) fr n) p = (-12) then 1 else 0) = 0 then 52 else 18, [some (.ref 0), none, none, none], [], hT g a (nI fr) (nI n) (nI (en (Bt (a 1) fr n) p)) (kd (Bt (a 1) fr n) p) (nI p) w op 0 fl)) rfl trivial ?_
  refine P0.ifB (fun h1 => ?_) (fun h1 => ?_)
  · refine P0.b GX11_not3 1 (ob := []) (cf' := (53, [some (.ref 0), none, none, none], [.ref 0], hT g a (nI fr) (nI n) (nI (en (Bt (a 1) fr n) p)) (kd (Bt (a 1) fr n) p) (nI p) w op 0 fl)) rfl trivial ?_
    refine P0.cs (as := [.ref 0]) (rest := []) GX11_added3 kX11_not3_53 rfl ⟨_, _, rfl, rfl, .inl ⟨_, _, _, _, rfl, rfl⟩⟩ (Nat.le_of_ble_eq_true rfl) (Nat.le_of_ble_eq_true rfl) (P0.mono (e_X11_added3 hT0 hw hp (op := op) hop) (Nat.le_of_ble_eq_true rfl) (Nat.zero_le _) (Nat.zero_le _) (fun _ _ q => q)) (Nat.le_of_ble_eq_true rfl) (fun _ _ q => q.len) ?_
    rintro r1065 h1065 hq65
    have hq65 : QP g a fr n op (psum (sg (Bt (a 1) fr n)) (nx (Bt (a 1) fr n)) (vA g) true (lvl (sg (Bt (a 1) fr n)) (nx (Bt (a 1) fr n)) (vA g) 1 0) (lvl (sg (Bt (a 1) fr n)) (nx (Bt (a 1) fr n)) (vA g) 1 2) p) r1065 h1065 := hq65
    rcases hR65 : psum (sg (Bt (a 1) fr n)) (nx (Bt (a 1) fr n)) (vA g) true (lvl (sg (Bt (a 1) fr n)) (nx (Bt (a 1) fr n)) (vA g) 1 0) (lvl (sg (Bt (a 1) fr n)) (nx (Bt (a 1) fr n)) (vA g) 1 2) p with q65 | ⟨x65, p65⟩
    · rw [hR65] at hq65
      obtain ⟨v65, e65, tk65, pp65, w65, op65, rfl, rfl⟩ := hq65
      show P0 _ _ _ _ (56, [some (.ref 0), none, none, none], [.int v65], hT g a (nI fr) (nI n) e65 tk65 pp65 w65 op65 1 (nI q65)) _
      refine P0.b GX11_not3 3 (ob := []) (cf' := (60, [some (.ref 0), some (.int v65), none, none], [.int 60, .ref 0], hT g a (nI fr) (nI n) e65 tk65 pp65 w65 op65 1 (nI q65))) rfl trivial ?_
      refine P0.cd (d0 := 0) (as := [.ref 0, .int 60]) (rest := []) (r1 := some (.int 0)) (h1 := hT g a (nI fr) (nI n) e65 tk65 pp65 w65 op65 1 (nI q65)) (st' := [.int 0]) GX11_isSign kX11_not3_60 rfl ⟨_, _, rfl, rfl, .inl ⟨_, _, _, _, rfl, rfl⟩⟩ (Nat.le_of_ble_eq_true rfl) (Nat.le_of_ble_eq_true rfl) (e_isSign_bad (c := 60)) (Nat.le_of_ble_eq_true rfl) rfl (Nat.le_of_ble_eq_true rfl) rfl ?_
      refine P0.b GX11_not3 3 (ob := []) (cf' := (69, [some (.ref 0), some (.int v65), none, none], [.int 61, .ref 0], hT g a (nI fr) (nI n) e65 tk65 pp65 w65 op65 1 (nI q65))) rfl trivial ?_
      refine P0.cd (d0 := 0) (as := [.ref 0, .int 61]) (rest := []) (r1 := some (.int 0)) (h1 := hT g a (nI fr) (nI n) e65 tk65 pp65 w65 op65 1 (nI q65)) (st' := [.int 0]) GX11_isSign kX11_not3_69 rfl ⟨_, _, rfl, rfl, .inl ⟨_, _, _, _, rfl, rfl⟩⟩ (Nat.le_of_ble_eq_true rfl) (Nat.le_of_ble_eq_true rfl) (e_isSign_bad (c := 61)) (Nat.le_of_ble_eq_true rfl) rfl (Nat.le_of_ble_eq_true rfl) rfl ?_
      refine P0.b GX11_not3 2 (ob := []) (cf' := (76, [some (.ref 0), some (.int v65), none, none], [.int v65], hT g a (nI fr) (nI n) e65 tk65 pp65 w65 op65 1 (nI q65))) rfl trivial ?_
      exact P0.ri (by decide +kernel) rfl rfl (QP.no ((pnot_sum h1).trans (by rw [hR65]; rfl)) v65 e65 tk65 pp65 w65 op65)
    · rw [hR65] at hq65
      obtain ⟨w65, fl65, rfl, rfl, hw65, hp65⟩ := hq65
      show P0 _ _ _ _ (56, [some (.ref 0), none, none, none], [.int x65], hT g a (nI fr) (nI n) (nI (en (Bt (a 1) fr n) p65)) (kd (Bt (a 1) fr n) p65) (nI p65) w65 op 0 fl65) _
      refine P0.b GX11_not3 3 (ob := []) (cf' := (60, [some (.ref 0), some (.int x65), none, none], [.int 60, .ref 0], hT g a (nI fr) (nI n) (nI (en (Bt (a 1) fr n) p65)) (kd (Bt (a 1) fr n) p65) (nI p65) w65 op 0 fl65)) rfl trivial ?_
      refine P0.cd (d0 := 0) (as := [.ref 0, .int 60]) (rest := []) (r1 := some (.int (if sg (Bt (a 1) fr n) p65 = (-19) then 1 else 0))) (h1 := hT g a (nI fr) (nI n) (nI (en (Bt (a 1) fr n) p65)) (kd (Bt (a 1) fr n) p65) (nI p65) w65 op 0 fl65) (st' := [.int (if sg (Bt (a 1) fr n) p65 = (-19) then 1 else 0)]) GX11_isSign kX11_not3_60 rfl ⟨_, _, rfl, rfl, .inl ⟨_, _, _, _, rfl, rfl⟩⟩ (Nat.le_of_ble_eq_true rfl) (Nat.le_of_ble_eq_true rfl) (e_isSign_ok hw65 (c := 60) (code := (-19)) (by decide +kernel)) (Nat.le_of_ble_eq_true rfl) rfl (Nat.le_of_ble_eq_true rfl) rfl ?_
      refine P0.b GX11_not3 1 (ob := []) (cf' := (if (if sg (Bt (a 1) fr n) p65 = (-19) then 1 else 0) = 0 then 66 else 77, [some (.ref 0), some (.int x65), none, none], [], hT g a (nI fr) (nI n) (nI (en (Bt (a 1) fr n) p65)) (kd (Bt (a 1) fr n) p65) (nI p65) w65 op 0 fl65)) rfl trivial ?_
      refine P0.ifB (fun h2 => ?_) (fun h2 => ?_)
      · refine P0.b GX11_not3 2 (ob := []) (cf' := (69, [some (.ref 0), some (.int x65), none, none], [.int 61, .ref 0], hT g a (nI fr) (nI n) (nI (en (Bt (a 1) fr n) p65)) (kd (Bt (a 1) fr n) p65) (nI p65) w65 op 0 fl65)) rfl trivial ?_
        refine P0.cd (d0 := 0) (as := [.ref 0, .int 61]) (rest := []) (r1 := some (.int (if sg (Bt (a 1) fr n) p65 = (-20) then 1 else 0))) (h1 := hT g a (nI fr) (nI n) (nI (en (Bt (a 1) fr n) p65)) (kd (Bt (a 1) fr n) p65) (nI p65) w65 op 0 fl65) (st' := [.int (if sg (Bt (a 1) fr n) p65 = (-20) then 1 else 0)]) GX11_isSign kX11_not3_69 rfl ⟨_, _, rfl, rfl, .inl ⟨_, _, _, _, rfl, rfl⟩⟩ (Nat.le_of_ble_eq_true rfl) (Nat.le_of_ble_eq_true rfl) (e_isSign_ok hw65 (c := 61) (code := (-20)) (by decide +kernel)) (Nat.le_of_ble_eq_true rfl) rfl (Nat.le_of_ble_eq_true rfl) rfl ?_
        refine P0.b GX11_not3 1 (ob := []) (cf' := (if (if sg (Bt (a 1) fr n) p65 = (-20) then 1 else 0) = 0 then 75 else 77, [some (.ref 0), some (.int x65), none, none], [], hT g a (nI fr) (nI n) (nI (en (Bt (a 1) fr n) p65)) (kd (Bt (a 1) fr n) p65) (nI p65) w65 op 0 fl65)) rfl trivial ?_
        refine P0.ifB (fun h3 => ?_) (fun h3 => ?_)
        · refine P0.b GX11_not3 1 (ob := []) (cf' := (76, [some (.ref 0), some (.int x65), none, none], [.int x65], hT g a (nI fr) (nI n) (nI (en (Bt (a 1) fr n) p65)) (kd (Bt (a 1) fr n) p65) (nI p65) w65 op 0 fl65)) rfl trivial ?_
          exact P0.ri (by decide +kernel) rfl rfl (QP.yes ((pnot_sum h1).trans (by rw [hR65]; exact if_neg (fun z => z.elim h2 h3))) hw65 hp65)
        · refine P0.b GX11_not3 5 (ob := []) (cf' := (if lg_cmp w65 60 = 0 then 88 else 92, [some (.ref 0), some (.int x65), none, none], [], hT g a (nI fr) (nI n) (nI (en (Bt (a 1) fr n) p65)) (kd (Bt (a 1) fr n) p65) (nI p65) w65 op 0 fl65)) rfl trivial ?_
          rw [if_neg (show ¬ (lg_cmp w65 60 = 0) from by rw [sB_of (c := 61) (code := -20) (by decide +kernel) h3 hw65]; decide)]
          refine P0.b GX11_not3 3 (ob := []) (cf' := (95, [some (.ref 0), some (.int x65), some (.int 0), none], [.ref 0], hT g a (nI fr) (nI n) (nI (en (Bt (a 1) fr n) p65)) (kd (Bt (a 1) fr n) p65) (nI p65) w65 op 0 fl65)) rfl trivial ?_
          refine P0.cs (as := [.ref 0]) (rest := []) GX11_nextToken kX11_not3_95 rfl ⟨_, _, rfl, rfl, .inl ⟨_, _, _, _, rfl, rfl⟩⟩ (Nat.le_of_ble_eq_true rfl) (Nat.le_of_ble_eq_true rfl) (P0.mono (e_X11_nextToken hT0 (en (Bt (a 1) fr n) p65) (en_le hp65) _ _ _ _ _ _) (Nat.le_of_ble_eq_true rfl) (Nat.zero_le _) (Nat.zero_le _) (fun _ _ q => q)) (Nat.le_of_ble_eq_true rfl) (fun _ _ q => q.len) ?_
          rintro _ _ ⟨w66, rfl, rfl, hw66⟩
          have hp66 := nx_le (f := a 1) (fr := fr) hp65
          show P0 _ _ _ _ (98, [some (.ref 0), some (.int x65), some (.int 0), none], [], hT g a (nI fr) (nI n) (nI (en (Bt (a 1) fr n) (nx (Bt (a 1) fr n) p65))) (kd (Bt (a 1) fr n) (nx (Bt (a 1) fr n) p65)) (nI (nx (Bt (a 1) fr n) p65)) w66 op 0 fl65) _
          refine P0.b GX11_not3 1 (ob := []) (cf' := (99, [some (.ref 0), some (.int x65), some (.int 0), none], [.ref 0], hT g a (nI fr) (nI n) (nI (en (Bt (a 1) fr n) (nx (Bt (a 1) fr n) p65))) (kd (Bt (a 1) fr n) (nx (Bt (a 1) fr n) p65)) (nI (nx (Bt (a 1) fr n) p65)) w66 op 0 fl65)) rfl trivial ?_
          refine P0.cs (as := [.ref 0]) (rest := []) GX11_added3 kX11_not3_99 rfl ⟨_, _, rfl, rfl, .inl ⟨_, _, _, _, rfl, rfl⟩⟩ (Nat.le_of_ble_eq_true rfl) (Nat.le_of_ble_eq_true rfl) (P0.mono (e_X11_added3 hT0 hw66 hp66 (op := op) hop) (Nat.le_of_ble_eq_true rfl) (Nat.zero_le _) (Nat.zero_le _) (fun _ _ q => q)) (Nat.le_of_ble_eq_true rfl) (fun _ _ q => q.len) ?_
          rintro r1067 h1067 hq67
          have hq67 : QP g a fr n op (psum (sg (Bt (a 1) fr n)) (nx (Bt (a 1) fr n)) (vA g) true (lvl (sg (Bt (a 1) fr n)) (nx (Bt (a 1) fr n)) (vA g) 1 0) (lvl (sg (Bt (a 1) fr n)) (nx (Bt (a 1) fr n)) (vA g) 1 2) (nx (Bt (a 1) fr n) p65)) r1067 h1067 := hq67
          rcases hR67 : psum (sg (Bt (a 1) fr n)) (nx (Bt (a 1) fr n)) (vA g) true (lvl (sg (Bt (a 1) fr n)) (nx (Bt (a 1) fr n)) (vA g) 1 0) (lvl (sg (Bt (a 1) fr n)) (nx (Bt (a 1) fr n)) (vA g) 1 2) (nx (Bt (a 1) fr n) p65) with q67 | ⟨x67, p67⟩
          · rw [hR67] at hq67
            obtain ⟨v67, e67, tk67, pp67, w67, op67, rfl, rfl⟩ := hq67
            show P0 _ _ _ _ (102, [some (.ref 0), some (.int x65), some (.int 0), none], [.int v67], hT g a (nI fr) (nI n) e67 tk67 pp67 w67 op67 1 (nI q67)) _
            refine P0.b GX11_not3 6 (ob := []) (cf' := (if x65 = v67 then 120 else 124, [some (.ref 0), some (.int x65), some (.int 0), some (.int v67)], [], hT g a (nI fr) (nI n) e67 tk67 pp67 w67 op67 1 (nI q67))) rfl trivial ?_
            refine P0.if (fun h4 => ?_) (fun h4 => ?_)
            · refine P0.b GX11_not3 2 (ob := []) (cf' := (125, [some (.ref 0), some (.int x65), some (.int 0), some (.int v67)], [.int 1], hT g a (nI fr) (nI n) e67 tk67 pp67 w67 op67 1 (nI q67))) rfl trivial ?_
              exact P0.ri (by decide +kernel) rfl rfl (QP.no ((pnot_sum h1).trans (by rw [hR65]; show (if _ then _ else _) = _; rw [if_pos (Or.inr h3), hR67]; rfl)) 1 e67 tk67 pp67 w67 op67)
            · refine P0.b GX11_not3 1 (ob := []) (cf' := (125, [some (.ref 0), some (.int x65), some (.int 0), some (.int v67)], [.int 0], hT g a (nI fr) (nI n) e67 tk67 pp67 w67 op67 1 (nI q67))) rfl trivial ?_
              exact P0.ri (by decide +kernel) rfl rfl (QP.no ((pnot_sum h1).trans (by rw [hR65]; show (if _ then _ else _) = _; rw [if_pos (Or.inr h3), hR67]; rfl)) 0 e67 tk67 pp67 w67 op67)
          · rw [hR67] at hq67
            obtain ⟨w67, fl67, rfl, rfl, hw67, hp67⟩ := hq67
            show P0 _ _ _ _ (102, [some (.ref 0), some (.int x65), some (.int 0), none], [.int x67], hT g a (nI fr) (nI n) (nI (en (Bt (a 1) fr n) p67)) (kd (Bt (a 1) fr n) p67) (nI p67) w67 op 0 fl67) _
            refine P0.b GX11_not3 6 (ob := []) (cf' := (if x65 = x67 then 120 else 124, [some (.ref 0), some (.int x65), some (.int 0), some (.int x67)], [], hT g a (nI fr) (nI n) (nI (en (Bt (a 1) fr n) p67)) (kd (Bt (a 1) fr n) p67) (nI p67) w67 op 0 fl67)) rfl trivial ?_
            refine P0.if (fun h5 => ?_) (fun h5 => ?_)
            · refine P0.b GX11_not3 2 (ob := []) (cf' := (125, [some (.ref 0), some (.int x65), some (.int 0), some (.int x67)], [.int 1], hT g a (nI fr) (nI n) (nI (en (Bt (a 1) fr n) p67)) (kd (Bt (a 1) fr n) p67) (nI p67) w67 op 0 fl67)) rfl trivial ?_
              exact P0.ri (by decide +kernel) rfl rfl (QP.yes ((pnot_sum h1).trans (by rw [hR65]; show (if _ then _ else _) = _; rw [if_pos (Or.inr h3), hR67]; show Sum.inr (vBn _ _ _, _) = _; rw [h3]; simp [vBn, h5])) hw67 hp67)
            · refine P0.b GX11_not3 1 (ob := []) (cf' := (125, [some (.ref 0), some (.int x65), some (.int 0), some (.int x67)], [.int 0], hT g a (nI fr) (nI n) (nI (en (Bt (a 1) fr n) p67)) (kd (Bt (a 1) fr n) p67) (nI p67) w67 op 0 fl67)) rfl trivial ?_
              exact P0.ri (by decide +kernel) rfl rfl (QP.yes ((pnot_sum h1).trans (by rw [hR65]; show (if _ then _ else _) = _; rw [if_pos (Or.inr h3), hR67]; show Sum.inr (vBn _ _ _, _) = _; rw [h3]; simp [vBn, h5])) hw67 hp67)
      · refine P0.b GX11_not3 5 (ob := []) (cf' := (if lg_cmp w65 60 = 0 then 88 else 92, [some (.ref 0), some (.int x65), none, none], [], hT g a (nI fr) (nI n) (nI (en (Bt (a 1) fr n) p65)) (kd (Bt (a 1) fr n) p65) (nI p65) w65 op 0 fl65)) rfl trivial ?_
        rw [if_pos (show lg_cmp w65 60 = 0 from (lgc_eq _ _).mpr (sB_of (c := 60) (code := -19) (by decide +kernel) h2 hw65))]
        refine P0.b GX11_not3 4 (ob := []) (cf' := (95, [some (.ref 0), some (.int x65), some (.int 1), none], [.ref 0], hT g a (nI fr) (nI n) (nI (en (Bt (a 1) fr n) p65)) (kd (Bt (a 1) fr n) p65) (nI p65) w65 op 0 fl65)) rfl trivial ?_
        refine P0.cs (as := [.ref 0]) (rest := []) GX11_nextToken kX11_not3_95 rfl ⟨_, _, rfl, rfl, .inl ⟨_, _, _, _, rfl, rfl⟩⟩ (Nat.le_of_ble_eq_true rfl) (Nat.le_of_ble_eq_true rfl) (P0.mono (e_X11_nextToken hT0 (en (Bt (a 1) fr n) p65) (en_le hp65) _ _ _ _ _ _) (Nat.le_of_ble_eq_true rfl) (Nat.zero_le _) (Nat.zero_le _) (fun _ _ q => q)) (Nat.le_of_ble_eq_true rfl) (fun _ _ q => q.len) ?_
        rintro _ _ ⟨w68, rfl, rfl, hw68⟩
        have hp68 := nx_le (f := a 1) (fr := fr) hp65
        show P0 _ _ _ _ (98, [some (.ref 0), some (.int x65), some (.int 1), none], [], hT g a (nI fr) (nI n) (nI (en (Bt (a 1) fr n) (nx (Bt (a 1) fr n) p65))) (kd (Bt (a 1) fr n) (nx (Bt (a 1) fr n) p65)) (nI (nx (Bt (a 1) fr n) p65)) w68 op 0 fl65) _
        refine P0.b GX11_not3 1 (ob := []) (cf' := (99, [some (.ref 0), some (.int x65), some (.int 1), none], [.ref 0], hT g a (nI fr) (nI n) (nI (en (Bt (a 1) fr n) (nx (Bt (a 1) fr n) p65))) (kd (Bt (a 1) fr n) (nx (Bt (a 1) fr n) p65)) (nI (nx (Bt (a 1) fr n) p65)) w68 op 0 fl65)) rfl trivial ?_
        refine P0.cs (as := [.ref 0]) (rest := []) GX11_added3 kX11_not3_99 rfl ⟨_, _, rfl, rfl, .inl ⟨_, _, _, _, rfl, rfl⟩⟩ (Nat.le_of_ble_eq_true rfl) (Nat.le_of_ble_eq_true rfl) (P0.mono (e_X11_added3 hT0 hw68 hp68 (op := op) hop) (Nat.le_of_ble_eq_true rfl) (Nat.zero_le _) (Nat.zero_le _) (fun _ _ q => q)) (Nat.le_of_ble_eq_true rfl) (fun _ _ q => q.len) ?_
        rintro r1069 h1069 hq69
        have hq69 : QP g a fr n op (psum (sg (Bt (a 1) fr n)) (nx (Bt (a 1) fr n)) (vA g) true (lvl (sg (Bt (a 1) fr n)) (nx (Bt (a 1) fr n)) (vA g) 1 0) (lvl (sg (Bt (a 1) fr n)) (nx (Bt (a 1) fr n)) (vA g) 1 2) (nx (Bt (a 1) fr n) p65)) r1069 h1069 := hq69
        rcases hR69 : psum (sg (Bt (a 1) fr n)) (nx (Bt (a 1) fr n)) (vA g) true (lvl (sg (Bt (a 1) fr n)) (nx (Bt (a 1) fr n)) (vA g) 1 0) (lvl (sg (Bt (a 1) fr n)) (nx (Bt (a 1) fr n)) (vA g) 1 2) (nx (Bt (a 1) fr n) p65) with q69 | ⟨x69, p69⟩
        · rw [hR69] at hq69
          obtain ⟨v69, e69, tk69, pp69, w69, op69, rfl, rfl⟩ := hq69
          show P0 _ _ _ _ (102, [some (.ref 0), some (.int x65), some (.int 1), none], [.int v69], hT g a (nI fr) (nI n) e69 tk69 pp69 w69 op69 1 (nI q69)) _
          refine P0.b GX11_not3 6 (ob := []) (cf' := (if v69 ≤ x65 then 124 else 112, [some (.ref 0), some (.int x65), some (.int 1), some (.int v69)], [], hT g a (nI fr) (nI n) e69 tk69 pp69 w69 op69 1 (nI q69))) rfl trivial ?_
          refine P0.if (fun h6 => ?_) (fun h6 => ?_)
          · refine P0.b GX11_not3 1 (ob := []) (cf' := (125, [some (.ref 0), some (.int x65), some (.int 1), some (.int v69)], [.int 0], hT g a (nI fr) (nI n) e69 tk69 pp69 w69 op69 1 (nI q69))) rfl trivial ?_
            exact P0.ri (by decide +kernel) rfl rfl (QP.no ((pnot_sum h1).trans (by rw [hR65]; show (if _ then _ else _) = _; rw [if_pos (Or.inl h2), hR69]; rfl)) 0 e69 tk69 pp69 w69 op69)
          · refine P0.b GX11_not3 3 (ob := []) (cf' := (125, [some (.ref 0), some (.int x65), some (.int 1), some (.int v69)], [.int 1], hT g a (nI fr) (nI n) e69 tk69 pp69 w69 op69 1 (nI q69))) rfl trivial ?_
            exact P0.ri (by decide +kernel) rfl rfl (QP.no ((pnot_sum h1).trans (by rw [hR65]; show (if _ then _ else _) = _; rw [if_pos (Or.inl h2), hR69]; rfl)) 1 e69 tk69 pp69 w69 op69)
        · rw [hR69] at hq69
          obtain ⟨w69, fl69, rfl, rfl, hw69, hp69⟩ := hq69
          show P0 _ _ _ _ (102, [some (.ref 0), some (.int x65), some (.int 1), none], [.int x69], hT g a (nI fr) (nI n) (nI (en (Bt (a 1) fr n) p69)) (kd (Bt (a 1) fr n) p69) (nI p69) w69 op 0 fl69) _
          refine P0.b GX11_not3 6 (ob := []) (cf' := (if x69 ≤ x65 then 124 else 112, [some (.ref 0), some (.int x65), some (.int 1), some (.int x69)], [], hT g a (nI fr) (nI n) (nI (en (Bt (a 1) fr n) p69)) (kd (Bt (a 1) fr n) p69) (nI p69) w69 op 0 fl69)) rfl trivial ?_
          refine P0.if (fun h7 => ?_) (fun h7 => ?_)
          · refine P0.b GX11_not3 1 (ob := []) (cf' := (125, [some (.ref 0), some (.int x65), some (.int 1), some (.int x69)], [.int 0], hT g a (nI fr) (nI n) (nI (en (Bt (a 1) fr n) p69)) (kd (Bt (a 1) fr n) p69) (nI p69) w69 op 0 fl69)) rfl trivial ?_
            exact P0.ri (by decide +kernel) rfl rfl (QP.yes ((pnot_sum h1).trans (by rw [hR65]; show (if _ then _ else _) = _; rw [if_pos (Or.inl h2), hR69]; show Sum.inr (vBn _ _ _, _) = _; rw [h2]; simp [vBn, h7])) hw69 hp69)
          · refine P0.b GX11_not3 3 (ob := []) (cf' := (125, [some (.ref 0), some (.int x65), some (.int 1), some (.int x69)], [.int 1], hT g a (nI fr) (nI n) (nI (en (Bt (a 1) fr n) p69)) (kd (Bt (a 1) fr n) p69) (nI p69) w69 op 0 fl69)) rfl trivial ?_
            exact P0.ri (by decide +kernel) rfl rfl (QP.yes ((pnot_sum h1).trans (by rw [hR65]; show (if _ then _ else _) = _; rw [if_pos (Or.inl h2), hR69]; show Sum.inr (vBn _ _ _, _) = _; rw [h2]; simp [vBn, h7])) hw69 hp69)
  · refine P0.b GX11_not3 1 (ob := []) (cf' := (19, [some (.ref 0), none, none, none], [.ref 0], hT g a (nI fr) (nI n) (nI (en (Bt (a 1) fr n) p)) (kd (Bt (a 1) fr n) p) (nI p) w op 0 fl)) rfl trivial ?_
    refine P0.cs (as := [.ref 0]) (rest := []) GX11_opens kX11_not3_19 rfl ⟨_, _, rfl, rfl, .inl ⟨_, _, _, _, rfl, rfl⟩⟩ (Nat.le_of_ble_eq_true rfl) (Nat.le_of_ble_eq_true rfl) (P0.mono (e_opens_yes hT0 hp (op := op) (by rw [hop]; decide)) (Nat.le_of_ble_eq_true rfl) (Nat.zero_le _) (Nat.zero_le _) (fun _ _ q => q)) (Nat.le_of_ble_eq_true rfl) (fun _ _ q => by obtain ⟨_, _, rfl, _⟩ := q; exact hT_len.trans hT_len.symm) ?_
    rintro _ _ ⟨w70, rfl, rfl, hw70⟩
    have hp70 := nx_le (f := a 1) (fr := fr) hp
    show P0 _ _ _ _ (22, [some (.ref 0), none, none, none], [.int 1], hT g a (nI fr) (nI n) (nI (en (Bt (a 1) fr n) (nx (Bt (a 1) fr n) p))) (kd (Bt (a 1) fr n) (nx (Bt (a 1) fr n) p)) (nI (nx (Bt (a 1) fr n) p)) w70 (op + 1) 0 fl) _
    refine P0.b GX11_not3 2 (ob := []) (cf' := (28, [some (.ref 0), none, none, none], [.ref 0], hT g a (nI fr) (nI n) (nI (en (Bt (a 1) fr n) (nx (Bt (a 1) fr n) p))) (kd (Bt (a 1) fr n) (nx (Bt (a 1) fr n) p)) (nI (nx (Bt (a 1) fr n) p)) w70 (op + 1) 0 fl)) rfl trivial ?_
    refine P0.cs (as := [.ref 0]) (rest := []) GX11_not4 kX11_not3_28 rfl ⟨_, _, rfl, rfl, .inl ⟨_, _, _, _, rfl, rfl⟩⟩ (Nat.le_of_ble_eq_true rfl) (Nat.le_of_ble_eq_true rfl) (P0.mono (e_X11_not4 hT0 hw70 hp70 (op := op + 1) (by rw [hop]; decide)) (Nat.le_of_ble_eq_true rfl) (Nat.zero_le _) (Nat.zero_le _) (fun _ _ q => q)) (Nat.le_of_ble_eq_true rfl) (fun _ _ q => q.len) ?_
    rintro r1071 h1071 hq71
    have hq71 : QP g a fr n (op + 1) (lvl (sg (Bt (a 1) fr n)) (nx (Bt (a 1) fr n)) (vA g) 1 1 (nx (Bt (a 1) fr n) p)) r1071 h1071 := hq71
    rcases hR71 : lvl (sg (Bt (a 1) fr n)) (nx (Bt (a 1) fr n)) (vA g) 1 1 (nx (Bt (a 1) fr n) p) with q71 | ⟨x71, p71⟩
    · rw [hR71] at hq71
      obtain ⟨v71, e71, tk71, pp71, w71, op71, rfl, rfl⟩ := hq71
      show P0 _ _ _ _ (31, [some (.ref 0), none, none, none], [.int v71], hT g a (nI fr) (nI n) e71 tk71 pp71 w71 op71 1 (nI q71)) _
      refine P0.b GX11_not3 9 (ob := []) (cf' := (if v71 = 0 then 46 else 50, [some (.ref 0), some (.int v71), none, none], [], hT g a (nI fr) (nI n) e71 tk71 pp71 w71 (op71 - 1) 1 (nI q71))) rfl trivial ?_
      refine P0.if (fun h8 => ?_) (fun h8 => ?_)
      · refine P0.b GX11_not3 2 (ob := []) (cf' := (51, [some (.ref 0), some (.int v71), none, none], [.int 1], hT g a (nI fr) (nI n) e71 tk71 pp71 w71 (op71 - 1) 1 (nI q71))) rfl trivial ?_
        exact P0.ri (by decide +kernel) rfl rfl (QP.no (pnot_not_no h1 hR71) 1 e71 tk71 pp71 w71 (op71 - 1))
      · refine P0.b GX11_not3 1 (ob := []) (cf' := (51, [some (.ref 0), some (.int v71), none, none], [.int 0], hT g a (nI fr) (nI n) e71 tk71 pp71 w71 (op71 - 1) 1 (nI q71))) rfl trivial ?_
        exact P0.ri (by decide +kernel) rfl rfl (QP.no (pnot_not_no h1 hR71) 0 e71 tk71 pp71 w71 (op71 - 1))
    · rw [hR71] at hq71
      obtain ⟨w71, fl71, rfl, rfl, hw71, hp71⟩ := hq71
      show P0 _ _ _ _ (31, [some (.ref 0), none, none, none], [.int x71], hT g a (nI fr) (nI n) (nI (en (Bt (a 1) fr n) p71)) (kd (Bt (a 1) fr n) p71) (nI p71) w71 (op + 1) 0 fl71) _
      refine P0.b GX11_not3 9 (ob := []) (cf' := (if x71 = 0 then 46 else 50, [some (.ref 0), some (.int x71), none, none], [], hT g a (nI fr) (nI n) (nI (en (Bt (a 1) fr n) p71)) (kd (Bt (a 1) fr n) p71) (nI p71) w71 ((op + 1) - 1) 0 fl71)) rfl trivial ?_
      rw [show (op + 1) - 1 = op from by rw [hop]; decide]
      refine P0.if (fun h9 => ?_) (fun h9 => ?_)
      · refine P0.b GX11_not3 2 (ob := []) (cf' := (51, [some (.ref 0), some (.int x71), none, none], [.int 1], hT g a (nI fr) (nI n) (nI (en (Bt (a 1) fr n) p71)) (kd (Bt (a 1) fr n) p71) (nI p71) w71 op 0 fl71)) rfl trivial ?_
        exact P0.ri (by decide +kernel) rfl rfl (QP.yes (pnot_not_yes h1 hR71 (by simp [vA, vUn, h9])) hw71 hp71)
      · refine P0.b GX11_not3 1 (ob := []) (cf' := (51, [some (.ref 0), some (.int x71), none, none], [.int 0], hT g a (nI fr) (nI n) (nI (en (Bt (a 1) fr n) p71)) (kd (Bt (a 1) fr n) p71) (nI p71) w71 op 0 fl71)) rfl trivial ?_
        exact P0.ri (by decide +kernel) rfl rfl (QP.yes (pnot_not_yes h1 hR71 (by simp [vA, vUn, h9])) hw71 hp71)
set_option maxHeartbeats 2000000 in
theorem lp_X11_both3 {g : Nat → Int32} {a : Nat → Nat → Int32} {fr n : Nat} (hT0 : TxOK a fr n) {op : Int32} (hop : op = 3) : ∀ (f : Nat) (x : Int32) (p : Nat) (w : Int64) (fl : Int32), wOK (Bt (a 1) fr n) p w → p ≤ n → n ≤ p + f → P0 20 0 0 mX11_both3 (5, [some (.ref 0), some (.int x), none], [], hT g a (nI fr) (nI n) (nI (en (Bt (a 1) fr n) p)) (kd (Bt (a 1) fr n) p) (nI p) w op 0 fl) (QP g a fr n op (pch (sg (Bt (a 1) fr n)) (nx (Bt (a 1) fr n)) (vA g).2.2 jBoth (pnot (sg (Bt (a 1) fr n)) (nx (Bt (a 1) fr n)) (vA g) true (lvl (sg (Bt (a 1) fr n)) (nx (Bt (a 1) fr n)) (vA g) 1 0) (lvl (sg (Bt (a 1) fr n)) (nx (Bt (a 1) fr n)) (vA g) 1 1) (lvl (sg (Bt (a 1) fr n)) (nx (Bt (a 1) fr n)) (vA g) 1 2)) f x p))
  | 0, x, p, w, fl, hw, hp, hpf => by
    refine P0.b GX11_both3 9 (ob := []) (cf' := (17, [some (.ref 0), some (.int x), none], [.int 0, .int 0, .int 0, .int 0, .int 0, .int 100, .int 110, .int 97, .ref 0], hT g a (nI fr) (nI n) (nI (en (Bt (a 1) fr n) p)) (kd (Bt (a 1) fr n) p) (nI p) w op 0 fl)) rfl trivial ?_
    refine P0.cd (d0 := 2) (as := [.ref 0, .int 97, .int 110, .int 100, .int 0, .int 0, .int 0, .int 0, .int 0]) (rest := []) (r1 := some (.int (if sg (Bt (a 1) fr n) p = (-11) then 1 else 0))) (h1 := hT g a (nI fr) (nI n) (nI (en (Bt (a 1) fr n) p)) (kd (Bt (a 1) fr n) p) (nI p) w op 0 fl) (st' := [.int (if sg (Bt (a 1) fr n) p = (-11) then 1 else 0)]) GX11_isWord kX11_both3_17 rfl ⟨_, _, rfl, rfl, .inl ⟨_, _, _, _, rfl, rfl⟩⟩ (Nat.le_of_ble_eq_true rfl) (Nat.le_of_ble_eq_true rfl) (e_isWord_ok hT0 hp (cs := [97, 110, 100]) (code := (-11)) (by decide +kernel) (by decide) (by decide)) (Nat.le_of_ble_eq_true rfl) rfl (Nat.le_of_ble_eq_true rfl) rfl ?_
    refine P0.b GX11_both3 1 (ob := []) (cf' := (if (if sg (Bt (a 1) fr n) p = (-11) then 1 else 0) = 0 then 49 else 23, [some (.ref 0), some (.int x), none], [], hT g a (nI fr) (nI n) (nI (en (Bt (a 1) fr n) p)) (kd (Bt (a 1) fr n) p) (nI p) w op 0 fl)) rfl trivial ?_
    rw [if_neg (show ¬ (sg (Bt (a 1) fr n) p = (-11)) from by rw [sg_end hpf]; decide), if_pos rfl]
    refine P0.b GX11_both3 1 (ob := []) (cf' := (50, [some (.ref 0), some (.int x), none], [.int x], hT g a (nI fr) (nI n) (nI (en (Bt (a 1) fr n) p)) (kd (Bt (a 1) fr n) p) (nI p) w op 0 fl)) rfl trivial ?_
    exact P0.ri (by decide +kernel) rfl rfl (QP.yes rfl hw hp)
  | f + 1, x, p, w, fl, hw, hp, hpf => by
    refine P0.b GX11_both3 9 (ob := []) (cf' := (17, [some (.ref 0), some (.int x), none], [.int 0, .int 0, .int 0, .int 0, .int 0, .int 100, .int 110, .int 97, .ref 0], hT g a (nI fr) (nI n) (nI (en (Bt (a 1) fr n) p)) (kd (Bt (a 1) fr n) p) (nI p) w op 0 fl)) rfl trivial ?_
    refine P0.cd (d0 := 2) (as := [.ref 0, .int 97, .int 110, .int 100, .int 0, .int 0, .int 0, .int 0, .int 0]) (rest := []) (r1 := some (.int (if sg (Bt (a 1) fr n) p = (-11) then 1 else 0))) (h1 := hT g a (nI fr) (nI n) (nI (en (Bt (a 1) fr n) p)) (kd (Bt (a 1) fr n) p) (nI p) w op 0 fl) (st' := [.int (if sg (Bt (a 1) fr n) p = (-11) then 1 else 0)]) GX11_isWord kX11_both3_17 rfl ⟨_, _, rfl, rfl, .inl ⟨_, _, _, _, rfl, rfl⟩⟩ (Nat.le_of_ble_eq_true rfl) (Nat.le_of_ble_eq_true rfl) (e_isWord_ok hT0 hp (cs := [97, 110, 100]) (code := (-11)) (by decide +kernel) (by decide) (by decide)) (Nat.le_of_ble_eq_true rfl) rfl (Nat.le_of_ble_eq_true rfl) rfl ?_
    refine P0.b GX11_both3 1 (ob := []) (cf' := (if (if sg (Bt (a 1) fr n) p = (-11) then 1 else 0) = 0 then 49 else 23, [some (.ref 0), some (.int x), none], [], hT g a (nI fr) (nI n) (nI (en (Bt (a 1) fr n) p)) (kd (Bt (a 1) fr n) p) (nI p) w op 0 fl)) rfl trivial ?_
    refine P0.ifB (fun h1 => ?_) (fun h1 => ?_)
    · refine P0.b GX11_both3 1 (ob := []) (cf' := (50, [some (.ref 0), some (.int x), none], [.int x], hT g a (nI fr) (nI n) (nI (en (Bt (a 1) fr n) p)) (kd (Bt (a 1) fr n) p) (nI p) w op 0 fl)) rfl trivial ?_
      exact P0.ri (by decide +kernel) rfl rfl (QP.yes (pch_stop (show jBoth (sg (Bt (a 1) fr n) p) = false from by simp only [jBoth]; exact decide_eq_false h1)) hw hp)
    · refine P0.b GX11_both3 1 (ob := []) (cf' := (24, [some (.ref 0), some (.int x), none], [.ref 0], hT g a (nI fr) (nI n) (nI (en (Bt (a 1) fr n) p)) (kd (Bt (a 1) fr n) p) (nI p) w op 0 fl)) rfl trivial ?_
      refine P0.cs (as := [.ref 0]) (rest := []) GX11_nextToken kX11_both3_24 rfl ⟨_, _, rfl, rfl, .inl ⟨_, _, _, _, rfl, rfl⟩⟩ (Nat.le_of_ble_eq_true rfl) (Nat.le_of_ble_eq_true rfl) (P0.mono (e_X11_nextToken hT0 (en (Bt (a 1) fr n) p) (en_le hp) _ _ _ _ _ _) (Nat.le_of_ble_eq_true rfl) (Nat.zero_le _) (Nat.zero_le _) (fun _ _ q => q)) (Nat.le_of_ble_eq_true rfl) (fun _ _ q => q.len) ?_
      rintro _ _ ⟨w72, rfl, rfl, hw72⟩
      have hp72 := nx_le (f := a 1) (fr := fr) hp
      show P0 _ _ _ _ (27, [some (.ref 0), some (.int x), none], [], hT g a (nI fr) (nI n) (nI (en (Bt (a 1) fr n) (nx (Bt (a 1) fr n) p))) (kd (Bt (a 1) fr n) (nx (Bt (a 1) fr n) p)) (nI (nx (Bt (a 1) fr n) p)) w72 op 0 fl) _
      refine P0.b GX11_both3 1 (ob := []) (cf' := (28, [some (.ref 0), some (.int x), none], [.ref 0], hT g a (nI fr) (nI n) (nI (en (Bt (a 1) fr n) (nx (Bt (a 1) fr n) p))) (kd (Bt (a 1) fr n) (nx (Bt (a 1) fr n) p)) (nI (nx (Bt (a 1) fr n) p)) w72 op 0 fl)) rfl trivial ?_
      refine P0.cs (as := [.ref 0]) (rest := []) GX11_not3 kX11_both3_28 rfl ⟨_, _, rfl, rfl, .inl ⟨_, _, _, _, rfl, rfl⟩⟩ (Nat.le_of_ble_eq_true rfl) (Nat.le_of_ble_eq_true rfl) (P0.mono (e_X11_not3 hT0 hw72 hp72 (op := op) hop) (Nat.le_of_ble_eq_true rfl) (Nat.zero_le _) (Nat.zero_le _) (fun _ _ q => q)) (Nat.le_of_ble_eq_true rfl) (fun _ _ q => q.len) ?_
      rintro r1073 h1073 hq73
      have hq73 : QP g a fr n op (pnot (sg (Bt (a 1) fr n)) (nx (Bt (a 1) fr n)) (vA g) true (lvl (sg (Bt (a 1) fr n)) (nx (Bt (a 1) fr n)) (vA g) 1 0) (lvl (sg (Bt (a 1) fr n)) (nx (Bt (a 1) fr n)) (vA g) 1 1) (lvl (sg (Bt (a 1) fr n)) (nx (Bt (a 1) fr n)) (vA g) 1 2) (nx (Bt (a 1) fr n) p)) r1073 h1073 := hq73
      rcases hR73 : pnot (sg (Bt (a 1) fr n)) (nx (Bt (a 1) fr n)) (vA g) true (lvl (sg (Bt (a 1) fr n)) (nx (Bt (a 1) fr n)) (vA g) 1 0) (lvl (sg (Bt (a 1) fr n)) (nx (Bt (a 1) fr n)) (vA g) 1 1) (lvl (sg (Bt (a 1) fr n)) (nx (Bt (a 1) fr n)) (vA g) 1 2) (nx (Bt (a 1) fr n) p) with q73 | ⟨x73, p73⟩
      · rw [hR73] at hq73
        obtain ⟨v73, e73, tk73, pp73, w73, op73, rfl, rfl⟩ := hq73
        show P0 _ _ _ _ (31, [some (.ref 0), some (.int x), none], [.int v73], hT g a (nI fr) (nI n) e73 tk73 pp73 w73 op73 1 (nI q73)) _
        refine P0.b GX11_both3 3 (ob := []) (cf' := (if x = 0 then 44 else 36, [some (.ref 0), some (.int x), some (.int v73)], [], hT g a (nI fr) (nI n) e73 tk73 pp73 w73 op73 1 (nI q73))) rfl trivial ?_
        refine P0.if (fun h2 => ?_) (fun h2 => ?_)
        · refine P0.b GX11_both3 3 (ob := []) (cf' := (5, [some (.ref 0), some (.int 0), some (.int v73)], [], hT g a (nI fr) (nI n) e73 tk73 pp73 w73 op73 1 (nI q73))) rfl trivial ?_
          refine P0.b GX11_both3 9 (ob := []) (cf' := (17, [some (.ref 0), some (.int 0), some (.int v73)], [.int 0, .int 0, .int 0, .int 0, .int 0, .int 100, .int 110, .int 97, .ref 0], hT g a (nI fr) (nI n) e73 tk73 pp73 w73 op73 1 (nI q73))) rfl trivial ?_
          refine P0.cd (d0 := 2) (as := [.ref 0, .int 97, .int 110, .int 100, .int 0, .int 0, .int 0, .int 0, .int 0]) (rest := []) (r1 := some (.int 0)) (h1 := hT g a (nI fr) (nI n) e73 tk73 pp73 w73 op73 1 (nI q73)) (st' := [.int 0]) GX11_isWord kX11_both3_17 rfl ⟨_, _, rfl, rfl, .inl ⟨_, _, _, _, rfl, rfl⟩⟩ (Nat.le_of_ble_eq_true rfl) (Nat.le_of_ble_eq_true rfl) (e_isWord_bad (c0 := 97) (c1 := 110) (c2 := 100) (c3 := 0) (c4 := 0) (c5 := 0) (c6 := 0) (c7 := 0)) (Nat.le_of_ble_eq_true rfl) rfl (Nat.le_of_ble_eq_true rfl) rfl ?_
          refine P0.b GX11_both3 2 (ob := []) (cf' := (50, [some (.ref 0), some (.int 0), some (.int v73)], [.int 0], hT g a (nI fr) (nI n) e73 tk73 pp73 w73 op73 1 (nI q73))) rfl trivial ?_
          exact P0.ri (by decide +kernel) rfl rfl (QP.no (pch_fail (show jBoth (sg (Bt (a 1) fr n) p) = true from by rw [h1]; decide) hR73) 0 e73 tk73 pp73 w73 op73)
        · refine P0.b GX11_both3 2 (ob := []) (cf' := (if v73 = 0 then 44 else 40, [some (.ref 0), some (.int x), some (.int v73)], [], hT g a (nI fr) (nI n) e73 tk73 pp73 w73 op73 1 (nI q73))) rfl trivial ?_
          refine P0.if (fun h3 => ?_) (fun h3 => ?_)
          · refine P0.b GX11_both3 3 (ob := []) (cf' := (5, [some (.ref 0), some (.int 0), some (.int v73)], [], hT g a (nI fr) (nI n) e73 tk73 pp73 w73 op73 1 (nI q73))) rfl trivial ?_
            refine P0.b GX11_both3 9 (ob := []) (cf' := (17, [some (.ref 0), some (.int 0), some (.int v73)], [.int 0, .int 0, .int 0, .int 0, .int 0, .int 100, .int 110, .int 97, .ref 0], hT g a (nI fr) (nI n) e73 tk73 pp73 w73 op73 1 (nI q73))) rfl trivial ?_
            refine P0.cd (d0 := 2) (as := [.ref 0, .int 97, .int 110, .int 100, .int 0, .int 0, .int 0, .int 0, .int 0]) (rest := []) (r1 := some (.int 0)) (h1 := hT g a (nI fr) (nI n) e73 tk73 pp73 w73 op73 1 (nI q73)) (st' := [.int 0]) GX11_isWord kX11_both3_17 rfl ⟨_, _, rfl, rfl, .inl ⟨_, _, _, _, rfl, rfl⟩⟩ (Nat.le_of_ble_eq_true rfl) (Nat.le_of_ble_eq_true rfl) (e_isWord_bad (c0 := 97) (c1 := 110) (c2 := 100) (c3 := 0) (c4 := 0) (c5 := 0) (c6 := 0) (c7 := 0)) (Nat.le_of_ble_eq_true rfl) rfl (Nat.le_of_ble_eq_true rfl) rfl ?_
            refine P0.b GX11_both3 2 (ob := []) (cf' := (50, [some (.ref 0), some (.int 0), some (.int v73)], [.int 0], hT g a (nI fr) (nI n) e73 tk73 pp73 w73 op73 1 (nI q73))) rfl trivial ?_
            exact P0.ri (by decide +kernel) rfl rfl (QP.no (pch_fail (show jBoth (sg (Bt (a 1) fr n) p) = true from by rw [h1]; decide) hR73) 0 e73 tk73 pp73 w73 op73)
          · refine P0.b GX11_both3 4 (ob := []) (cf' := (5, [some (.ref 0), some (.int 1), some (.int v73)], [], hT g a (nI fr) (nI n) e73 tk73 pp73 w73 op73 1 (nI q73))) rfl trivial ?_
            refine P0.b GX11_both3 9 (ob := []) (cf' := (17, [some (.ref 0), some (.int 1), some (.int v73)], [.int 0, .int 0, .int 0, .int 0, .int 0, .int 100, .int 110, .int 97, .ref 0], hT g a (nI fr) (nI n) e73 tk73 pp73 w73 op73 1 (nI q73))) rfl trivial ?_
            refine P0.cd (d0 := 2) (as := [.ref 0, .int 97, .int 110, .int 100, .int 0, .int 0, .int 0, .int 0, .int 0]) (rest := []) (r1 := some (.int 0)) (h1 := hT g a (nI fr) (nI n) e73 tk73 pp73 w73 op73 1 (nI q73)) (st' := [.int 0]) GX11_isWord kX11_both3_17 rfl ⟨_, _, rfl, rfl, .inl ⟨_, _, _, _, rfl, rfl⟩⟩ (Nat.le_of_ble_eq_true rfl) (Nat.le_of_ble_eq_true rfl) (e_isWord_bad (c0 := 97) (c1 := 110) (c2 := 100) (c3 := 0) (c4 := 0) (c5 := 0) (c6 := 0) (c7 := 0)) (Nat.le_of_ble_eq_true rfl) rfl (Nat.le_of_ble_eq_true rfl) rfl ?_
            refine P0.b GX11_both3 2 (ob := []) (cf' := (50, [some (.ref 0), some (.int 1), some (.int v73)], [.int 1], hT g a (nI fr) (nI n) e73 tk73 pp73 w73 op73 1 (nI q73))) rfl trivial ?_
            exact P0.ri (by decide +kernel) rfl rfl (QP.no (pch_fail (show jBoth (sg (Bt (a 1) fr n) p) = true from by rw [h1]; decide) hR73) 1 e73 tk73 pp73 w73 op73)
      · rw [hR73] at hq73
        obtain ⟨w73, fl73, rfl, rfl, hw73, hp73⟩ := hq73
        show P0 _ _ _ _ (31, [some (.ref 0), some (.int x), none], [.int x73], hT g a (nI fr) (nI n) (nI (en (Bt (a 1) fr n) p73)) (kd (Bt (a 1) fr n) p73) (nI p73) w73 op 0 fl73) _
        refine P0.b GX11_both3 3 (ob := []) (cf' := (if x = 0 then 44 else 36, [some (.ref 0), some (.int x), some (.int x73)], [], hT g a (nI fr) (nI n) (nI (en (Bt (a 1) fr n) p73)) (kd (Bt (a 1) fr n) p73) (nI p73) w73 op 0 fl73)) rfl trivial ?_
        refine P0.if (fun h4 => ?_) (fun h4 => ?_)
        · refine P0.b GX11_both3 3 (ob := []) (cf' := (5, [some (.ref 0), some (.int 0), some (.int x73)], [], hT g a (nI fr) (nI n) (nI (en (Bt (a 1) fr n) p73)) (kd (Bt (a 1) fr n) p73) (nI p73) w73 op 0 fl73)) rfl trivial ?_
          rw [pch_step (show jBoth (sg (Bt (a 1) fr n) p) = true from by rw [h1]; decide) hR73, show (vA g).2.2 (sg (Bt (a 1) fr n) p) x x73 = (0 : Int32) from by rw [h1]; simp [vA, vBn, h4]]
          refine P0.forget (ls' := [some (.ref 0), some (.int 0), none]) ⟨.inr rfl, .inr rfl, .inl rfl, trivial⟩ ?_
          exact lp_X11_both3 hT0 hop f _ _ _ _ hw73 hp73 (by have h1 := nx_lt (B := (Bt (a 1) fr n)) (p := p) (by rw [h1]; decide) (by rw [h1]; decide); have h2 := (prog_not' nx_lt (prog_lvl nx_lt (vA g) 1 0) (prog_lvl nx_lt (vA g) 1 1) (prog_lvl nx_lt (vA g) 1 2)) _ _ _ hR73; omega)
        · refine P0.b GX11_both3 2 (ob := []) (cf' := (if x73 = 0 then 44 else 40, [some (.ref 0), some (.int x), some (.int x73)], [], hT g a (nI fr) (nI n) (nI (en (Bt (a 1) fr n) p73)) (kd (Bt (a 1) fr n) p73) (nI p73) w73 op 0 fl73)) rfl trivial ?_
          refine P0.if (fun h5 => ?_) (fun h5 => ?_)
          · refine P0.b GX11_both3 3 (ob := []) (cf' := (5, [some (.ref 0), some (.int 0), some (.int x73)], [], hT g a (nI fr) (nI n) (nI (en (Bt (a 1) fr n) p73)) (kd (Bt (a 1) fr n) p73) (nI p73) w73 op 0 fl73)) rfl trivial ?_
            rw [pch_step (show jBoth (sg (Bt (a 1) fr n) p) = true from by rw [h1]; decide) hR73, show (vA g).2.2 (sg (Bt (a 1) fr n) p) x x73 = (0 : Int32) from by rw [h1]; simp [vA, vBn, h4, h5]]
            refine P0.forget (ls' := [some (.ref 0), some (.int 0), none]) ⟨.inr rfl, .inr rfl, .inl rfl, trivial⟩ ?_
            exact lp_X11_both3 hT0 hop f _ _ _ _ hw73 hp73 (by have h1 := nx_lt (B := (Bt (a 1) fr n)) (p := p) (by rw [h1]; decide) (by rw [h1]; decide); have h2 := (prog_not' nx_lt (prog_lvl nx_lt (vA g) 1 0) (prog_lvl nx_lt (vA g) 1 1) (prog_lvl nx_lt (vA g) 1 2)) _ _ _ hR73; omega)
          · refine P0.b GX11_both3 4 (ob := []) (cf' := (5, [some (.ref 0), some (.int 1), some (.int x73)], [], hT g a (nI fr) (nI n) (nI (en (Bt (a 1) fr n) p73)) (kd (Bt (a 1) fr n) p73) (nI p73) w73 op 0 fl73)) rfl trivial ?_
            rw [pch_step (show jBoth (sg (Bt (a 1) fr n) p) = true from by rw [h1]; decide) hR73, show (vA g).2.2 (sg (Bt (a 1) fr n) p) x x73 = (1 : Int32) from by rw [h1]; simp [vA, vBn, h4, h5]]
            refine P0.forget (ls' := [some (.ref 0), some (.int 1), none]) ⟨.inr rfl, .inr rfl, .inl rfl, trivial⟩ ?_
            exact lp_X11_both3 hT0 hop f _ _ _ _ hw73 hp73 (by have h1 := nx_lt (B := (Bt (a 1) fr n)) (p := p) (by rw [h1]; decide) (by rw [h1]; decide); have h2 := (prog_not' nx_lt (prog_lvl nx_lt (vA g) 1 0) (prog_lvl nx_lt (vA g) 1 1) (prog_lvl nx_lt (vA g) 1 2)) _ _ _ hR73; omega)
set_option maxHeartbeats 2000000 in
theorem e_X11_both3 {g : Nat → Int32} {a : Nat → Nat → Int32} {fr n : Nat} (hT0 : TxOK a fr n) {p : Nat} {w : Int64} {fl : Int32} (hw : wOK (Bt (a 1) fr n) p w) (hp : p ≤ n) {op : Int32} (hop : op = 3) : P0 20 0 0 mX11_both3 (0, ent 3 [.ref 0], [], hT g a (nI fr) (nI n) (nI (en (Bt (a 1) fr n) p)) (kd (Bt (a 1) fr n) p) (nI p) w op 0 fl) (QP g a fr n op (pboth (sg (Bt (a 1) fr n)) (nx (Bt (a 1) fr n)) (vA g) true (lvl (sg (Bt (a 1) fr n)) (nx (Bt (a 1) fr n)) (vA g) 1 0) (lvl (sg (Bt (a 1) fr n)) (nx (Bt (a 1) fr n)) (vA g) 1 1) (lvl (sg (Bt (a 1) fr n)) (nx (Bt (a 1) fr n)) (vA g) 1 2) p)) := by
  show P0 _ _ _ _ _ (QP g a fr n op (pc0 (sg (Bt (a 1) fr n)) (nx (Bt (a 1) fr n)) (vA g).2.2 jBoth (pnot (sg (Bt (a 1) fr n)) (nx (Bt (a 1) fr n)) (vA g) true (lvl (sg (Bt (a 1) fr n)) (nx (Bt (a 1) fr n)) (vA g) 1 0) (lvl (sg (Bt (a 1) fr n)) (nx (Bt (a 1) fr n)) (vA g) 1 1) (lvl (sg (Bt (a 1) fr n)) (nx (Bt (a 1) fr n)) (vA g) 1 2)) p))
  refine P0.b GX11_both3 1 (ob := []) (cf' := (1, [some (.ref 0), none, none], [.ref 0], hT g a (nI fr) (nI n) (nI (en (Bt (a 1) fr n) p)) (kd (Bt (a 1) fr n) p) (nI p) w op 0 fl)) rfl trivial ?_
  refine P0.cs (as := [.ref 0]) (rest := []) GX11_not3 kX11_both3_1 rfl ⟨_, _, rfl, rfl, .inl ⟨_, _, _, _, rfl, rfl⟩⟩ (Nat.le_of_ble_eq_true rfl) (Nat.le_of_ble_eq_true rfl) (P0.mono (e_X11_not3 hT0 hw hp (op := op) hop) (Nat.le_of_ble_eq_true rfl) (Nat.zero_le _) (Nat.zero_le _) (fun _ _ q => q)) (Nat.le_of_ble_eq_true rfl) (fun _ _ q => q.len) ?_
  rintro r1074 h1074 hq74
  have hq74 : QP g a fr n op (pnot (sg (Bt (a 1) fr n)) (nx (Bt (a 1) fr n)) (vA g) true (lvl (sg (Bt (a 1) fr n)) (nx (Bt (a 1) fr n)) (vA g) 1 0) (lvl (sg (Bt (a 1) fr n)) (nx (Bt (a 1) fr n)) (vA g) 1 1) (lvl (sg (Bt (a 1) fr n)) (nx (Bt (a 1) fr n)) (vA g) 1 2) p) r1074 h1074 := hq74
  rcases hR74 : pnot (sg (Bt (a 1) fr n)) (nx (Bt (a 1) fr n)) (vA g) true (lvl (sg (Bt (a 1) fr n)) (nx (Bt (a 1) fr n)) (vA g) 1 0) (lvl (sg (Bt (a 1) fr n)) (nx (Bt (a 1) fr n)) (vA g) 1 1) (lvl (sg (Bt (a 1) fr n)) (nx (Bt (a 1) fr n)) (vA g) 1 2) p with q74 | ⟨x74, p74⟩
  · rw [hR74] at hq74
    obtain ⟨v74, e74, tk74, pp74, w74, op74, rfl, rfl⟩ := hq74
    show P0 _ _ _ _ (4, [some (.ref 0), none, none], [.int v74], hT g a (nI fr) (nI n) e74 tk74 pp74 w74 op74 1 (nI q74)) _
    refine P0.b GX11_both3 1 (ob := []) (cf' := (5, [some (.ref 0), some (.int v74), none], [], hT g a (nI fr) (nI n) e74 tk74 pp74 w74 op74 1 (nI q74))) rfl trivial ?_
    refine P0.b GX11_both3 9 (ob := []) (cf' := (17, [some (.ref 0), some (.int v74), none], [.int 0, .int 0, .int 0, .int 0, .int 0, .int 100, .int 110, .int 97, .ref 0], hT g a (nI fr) (nI n) e74 tk74 pp74 w74 op74 1 (nI q74))) rfl trivial ?_
    refine P0.cd (d0 := 2) (as := [.ref 0, .int 97, .int 110, .int 100, .int 0, .int 0, .int 0, .int 0, .int 0]) (rest := []) (r1 := some (.int 0)) (h1 := hT g a (nI fr) (nI n) e74 tk74 pp74 w74 op74 1 (nI q74)) (st' := [.int 0]) GX11_isWord kX11_both3_17 rfl ⟨_, _, rfl, rfl, .inl ⟨_, _, _, _, rfl, rfl⟩⟩ (Nat.le_of_ble_eq_true rfl) (Nat.le_of_ble_eq_true rfl) (e_isWord_bad (c0 := 97) (c1 := 110) (c2 := 100) (c3 := 0) (c4 := 0) (c5 := 0) (c6 := 0) (c7 := 0)) (Nat.le_of_ble_eq_true rfl) rfl (Nat.le_of_ble_eq_true rfl) rfl ?_
    refine P0.b GX11_both3 2 (ob := []) (cf' := (50, [some (.ref 0), some (.int v74), none], [.int v74], hT g a (nI fr) (nI n) e74 tk74 pp74 w74 op74 1 (nI q74))) rfl trivial ?_
    exact P0.ri (by decide +kernel) rfl rfl (QP.no (pc0_no hR74) v74 e74 tk74 pp74 w74 op74)
  · rw [hR74] at hq74
    obtain ⟨w74, fl74, rfl, rfl, hw74, hp74⟩ := hq74
    show P0 _ _ _ _ (4, [some (.ref 0), none, none], [.int x74], hT g a (nI fr) (nI n) (nI (en (Bt (a 1) fr n) p74)) (kd (Bt (a 1) fr n) p74) (nI p74) w74 op 0 fl74) _
    refine P0.b GX11_both3 1 (ob := []) (cf' := (5, [some (.ref 0), some (.int x74), none], [], hT g a (nI fr) (nI n) (nI (en (Bt (a 1) fr n) p74)) (kd (Bt (a 1) fr n) p74) (nI p74) w74 op 0 fl74)) rfl trivial ?_
    rw [pc0_yes hR74]
    exact lp_X11_both3 hT0 hop 200 _ _ _ _ hw74 hp74 (by have := hT0.2.1; omega)
set_option maxHeartbeats 2000000 in
theorem lp_X11_either3 {g : Nat → Int32} {a : Nat → Nat → Int32} {fr n : Nat} (hT0 : TxOK a fr n) {op : Int32} (hop : op = 3) : ∀ (f : Nat) (x : Int32) (p : Nat) (w : Int64) (fl : Int32), wOK (Bt (a 1) fr n) p w → p ≤ n → n ≤ p + f → P0 21 0 0 mX11_either3 (5, [some (.ref 0), some (.int x), none], [], hT g a (nI fr) (nI n) (nI (en (Bt (a 1) fr n) p)) (kd (Bt (a 1) fr n) p) (nI p) w op 0 fl) (QP g a fr n op (pch (sg (Bt (a 1) fr n)) (nx (Bt (a 1) fr n)) (vA g).2.2 jEith (pboth (sg (Bt (a 1) fr n)) (nx (Bt (a 1) fr n)) (vA g) true (lvl (sg (Bt (a 1) fr n)) (nx (Bt (a 1) fr n)) (vA g) 1 0) (lvl (sg (Bt (a 1) fr n)) (nx (Bt (a 1) fr n)) (vA g) 1 1) (lvl (sg (Bt (a 1) fr n)) (nx (Bt (a 1) fr n)) (vA g) 1 2)) f x p))
  | 0, x, p, w, fl, hw, hp, hpf => by
    refine P0.b GX11_either3 9 (ob := []) (cf' := (16, [some (.ref 0), some (.int x), none], [.int 0, .int 0, .int 0, .int 0, .int 0, .int 0, .int 114, .int 111, .ref 0], hT g a (nI fr) (nI n) (nI (en (Bt (a 1) fr n) p)) (kd (Bt (a 1) fr n) p) (nI p) w op 0 fl)) rfl trivial ?_
    refine P0.cd (d0 := 2) (as := [.ref 0, .int 111, .int 114, .int 0, .int 0, .int 0, .int 0, .int 0, .int 0]) (rest := []) (r1 := some (.int (if sg (Bt (a 1) fr n) p = (-10) then 1 else 0))) (h1 := hT g a (nI fr) (nI n) (nI (en (Bt (a 1) fr n) p)) (kd (Bt (a 1) fr n) p) (nI p) w op 0 fl) (st' := [.int (if sg (Bt (a 1) fr n) p = (-10) then 1 else 0)]) GX11_isWord kX11_either3_16 rfl ⟨_, _, rfl, rfl, .inl ⟨_, _, _, _, rfl, rfl⟩⟩ (Nat.le_of_ble_eq_true rfl) (Nat.le_of_ble_eq_true rfl) (e_isWord_ok hT0 hp (cs := [111, 114]) (code := (-10)) (by decide +kernel) (by decide) (by decide)) (Nat.le_of_ble_eq_true rfl) rfl (Nat.le_of_ble_eq_true rfl) rfl ?_
    refine P0.b GX11_either3 1 (ob := []) (cf' := (if (if sg (Bt (a 1) fr n) p = (-10) then 1 else 0) = 0 then 48 else 22, [some (.ref 0), some (.int x), none], [], hT g a (nI fr) (nI n) (nI (en (Bt (a 1) fr n) p)) (kd (Bt (a 1) fr n) p) (nI p) w op 0 fl)) rfl trivial ?_
    rw [if_neg (show ¬ (sg (Bt (a 1) fr n) p = (-10)) from by rw [sg_end hpf]; decide), if_pos rfl]
    refine P0.b GX11_either3 1 (ob := []) (cf' := (49, [some (.ref 0), some (.int x), none], [.int x], hT g a (nI fr) (nI n) (nI (en (Bt (a 1) fr n) p)) (kd (Bt (a 1) fr n) p) (nI p) w op 0 fl)) rfl trivial ?_
    exact P0.ri (by decide +kernel) rfl rfl (QP.yes rfl hw hp)
  | f + 1, x, p, w, fl, hw, hp, hpf => by
    refine P0.b GX11_either3 9 (ob := []) (cf' := (16, [some (.ref 0), some (.int x), none], [.int 0, .int 0, .int 0, .int 0, .int 0, .int 0, .int 114, .int 111, .ref 0], hT g a (nI fr) (nI n) (nI (en (Bt (a 1) fr n) p)) (kd (Bt (a 1) fr n) p) (nI p) w op 0 fl)) rfl trivial ?_
    refine P0.cd (d0 := 2) (as := [.ref 0, .int 111, .int 114, .int 0, .int 0, .int 0, .int 0, .int 0, .int 0]) (rest := []) (r1 := some (.int (if sg (Bt (a 1) fr n) p = (-10) then 1 else 0))) (h1 := hT g a (nI fr) (nI n) (nI (en (Bt (a 1) fr n) p)) (kd (Bt (a 1) fr n) p) (nI p) w op 0 fl) (st' := [.int (if sg (Bt (a 1) fr n) p = (-10) then 1 else 0)]) GX11_isWord kX11_either3_16 rfl ⟨_, _, rfl, rfl, .inl ⟨_, _, _, _, rfl, rfl⟩⟩ (Nat.le_of_ble_eq_true rfl) (Nat.le_of_ble_eq_true rfl) (e_isWord_ok hT0 hp (cs := [111, 114]) (code := (-10)) (by decide +kernel) (by decide) (by decide)) (Nat.le_of_ble_eq_true rfl) rfl (Nat.le_of_ble_eq_true rfl) rfl ?_
    refine P0.b GX11_either3 1 (ob := []) (cf' := (if (if sg (Bt (a 1) fr n) p = (-10) then 1 else 0) = 0 then 48 else 22, [some (.ref 0), some (.int x), none], [], hT g a (nI fr) (nI n) (nI (en (Bt (a 1) fr n) p)) (kd (Bt (a 1) fr n) p) (nI p) w op 0 fl)) rfl trivial ?_
    refine P0.ifB (fun h1 => ?_) (fun h1 => ?_)
    · refine P0.b GX11_either3 1 (ob := []) (cf' := (49, [some (.ref 0), some (.int x), none], [.int x], hT g a (nI fr) (nI n) (nI (en (Bt (a 1) fr n) p)) (kd (Bt (a 1) fr n) p) (nI p) w op 0 fl)) rfl trivial ?_
      exact P0.ri (by decide +kernel) rfl rfl (QP.yes (pch_stop (show jEith (sg (Bt (a 1) fr n) p) = false from by simp only [jEith]; exact decide_eq_false h1)) hw hp)
    · refine P0.b GX11_either3 1 (ob := []) (cf' := (23, [some (.ref 0), some (.int x), none], [.ref 0], hT g a (nI fr) (nI n) (nI (en (Bt (a 1) fr n) p)) (kd (Bt (a 1) fr n) p) (nI p) w op 0 fl)) rfl trivial ?_
      refine P0.cs (as := [.ref 0]) (rest := []) GX11_nextToken kX11_either3_23 rfl ⟨_, _, rfl, rfl, .inl ⟨_, _, _, _, rfl, rfl⟩⟩ (Nat.le_of_ble_eq_true rfl) (Nat.le_of_ble_eq_true rfl) (P0.mono (e_X11_nextToken hT0 (en (Bt (a 1) fr n) p) (en_le hp) _ _ _ _ _ _) (Nat.le_of_ble_eq_true rfl) (Nat.zero_le _) (Nat.zero_le _) (fun _ _ q => q)) (Nat.le_of_ble_eq_true rfl) (fun _ _ q => q.len) ?_
      rintro _ _ ⟨w75, rfl, rfl, hw75⟩
      have hp75 := nx_le (f := a 1) (fr := fr) hp
      show P0 _ _ _ _ (26, [some (.ref 0), some (.int x), none], [], hT g a (nI fr) (nI n) (nI (en (Bt (a 1) fr n) (nx (Bt (a 1) fr n) p))) (kd (Bt (a 1) fr n) (nx (Bt (a 1) fr n) p)) (nI (nx (Bt (a 1) fr n) p)) w75 op 0 fl) _
      refine P0.b GX11_either3 1 (ob := []) (cf' := (27, [some (.ref 0), some (.int x), none], [.ref 0], hT g a (nI fr) (nI n) (nI (en (Bt (a 1) fr n) (nx (Bt (a 1) fr n) p))) (kd (Bt (a 1) fr n) (nx (Bt (a 1) fr n) p)) (nI (nx (Bt (a 1) fr n) p)) w75 op 0 fl)) rfl trivial ?_
      refine P0.cs (as := [.ref 0]) (rest := []) GX11_both3 kX11_either3_27 rfl ⟨_, _, rfl, rfl, .inl ⟨_, _, _, _, rfl, rfl⟩⟩ (Nat.le_of_ble_eq_true rfl) (Nat.le_of_ble_eq_true rfl) (P0.mono (e_X11_both3 hT0 hw75 hp75 (op := op) hop) (Nat.le_of_ble_eq_true rfl) (Nat.zero_le _) (Nat.zero_le _) (fun _ _ q => q)) (Nat.le_of_ble_eq_true rfl) (fun _ _ q => q.len) ?_
      rintro r1076 h1076 hq76
      have hq76 : QP g a fr n op (pboth (sg (Bt (a 1) fr n)) (nx (Bt (a 1) fr n)) (vA g) true (lvl (sg (Bt (a 1) fr n)) (nx (Bt (a 1) fr n)) (vA g) 1 0) (lvl (sg (Bt (a 1) fr n)) (nx (Bt (a 1) fr n)) (vA g) 1 1) (lvl (sg (Bt (a 1) fr n)) (nx (Bt (a 1) fr n)) (vA g) 1 2) (nx (Bt (a 1) fr n) p)) r1076 h1076 := hq76
      rcases hR76 : pboth (sg (Bt (a 1) fr n)) (nx (Bt (a 1) fr n)) (vA g) true (lvl (sg (Bt (a 1) fr n)) (nx (Bt (a 1) fr n)) (vA g) 1 0) (lvl (sg (Bt (a 1) fr n)) (nx (Bt (a 1) fr n)) (vA g) 1 1) (lvl (sg (Bt (a 1) fr n)) (nx (Bt (a 1) fr n)) (vA g) 1 2) (nx (Bt (a 1) fr n) p) with q76 | ⟨x76, p76⟩
      · rw [hR76] at hq76
        obtain ⟨v76, e76, tk76, pp76, w76, op76, rfl, rfl⟩ := hq76
        show P0 _ _ _ _ (30, [some (.ref 0), some (.int x), none], [.int v76], hT g a (nI fr) (nI n) e76 tk76 pp76 w76 op76 1 (nI q76)) _
        refine P0.b GX11_either3 3 (ob := []) (cf' := (if x = 0 then 35 else 39, [some (.ref 0), some (.int x), some (.int v76)], [], hT g a (nI fr) (nI n) e76 tk76 pp76 w76 op76 1 (nI q76))) rfl trivial ?_
        refine P0.if (fun h2 => ?_) (fun h2 => ?_)
        · refine P0.b GX11_either3 2 (ob := []) (cf' := (if v76 = 0 then 43 else 39, [some (.ref 0), some (.int x), some (.int v76)], [], hT g a (nI fr) (nI n) e76 tk76 pp76 w76 op76 1 (nI q76))) rfl trivial ?_
          refine P0.if (fun h3 => ?_) (fun h3 => ?_)
          · refine P0.b GX11_either3 3 (ob := []) (cf' := (5, [some (.ref 0), some (.int 0), some (.int v76)], [], hT g a (nI fr) (nI n) e76 tk76 pp76 w76 op76 1 (nI q76))) rfl trivial ?_
            refine P0.b GX11_either3 9 (ob := []) (cf' := (16, [some (.ref 0), some (.int 0), some (.int v76)], [.int 0, .int 0, .int 0, .int 0, .int 0, .int 0, .int 114, .int 111, .ref 0], hT g a (nI fr) (nI n) e76 tk76 pp76 w76 op76 1 (nI q76))) rfl trivial ?_
            refine P0.cd (d0 := 2) (as := [.ref 0, .int 111, .int 114, .int 0, .int 0, .int 0, .int 0, .int 0, .int 0]) (rest := []) (r1 := some (.int 0)) (h1 := hT g a (nI fr) (nI n) e76 tk76 pp76 w76 op76 1 (nI q76)) (st' := [.int 0]) GX11_isWord kX11_either3_16 rfl ⟨_, _, rfl, rfl, .inl ⟨_, _, _, _, rfl, rfl⟩⟩ (Nat.le_of_ble_eq_true rfl) (Nat.le_of_ble_eq_true rfl) (e_isWord_bad (c0 := 111) (c1 := 114) (c2 := 0) (c3 := 0) (c4 := 0) (c5 := 0) (c6 := 0) (c7 := 0)) (Nat.le_of_ble_eq_true rfl) rfl (Nat.le_of_ble_eq_true rfl) rfl ?_
            refine P0.b GX11_either3 2 (ob := []) (cf' := (49, [some (.ref 0), some (.int 0), some (.int v76)], [.int 0], hT g a (nI fr) (nI n) e76 tk76 pp76 w76 op76 1 (nI q76))) rfl trivial ?_
            exact P0.ri (by decide +kernel) rfl rfl (QP.no (pch_fail (show jEith (sg (Bt (a 1) fr n) p) = true from by rw [h1]; decide) hR76) 0 e76 tk76 pp76 w76 op76)
          · refine P0.b GX11_either3 4 (ob := []) (cf' := (5, [some (.ref 0), some (.int 1), some (.int v76)], [], hT g a (nI fr) (nI n) e76 tk76 pp76 w76 op76 1 (nI q76))) rfl trivial ?_
            refine P0.b GX11_either3 9 (ob := []) (cf' := (16, [some (.ref 0), some (.int 1), some (.int v76)], [.int 0, .int 0, .int 0, .int 0, .int 0, .int 0, .int 114, .int 111, .ref 0], hT g a (nI fr) (nI n) e76 tk76 pp76 w76 op76 1 (nI q76))) rfl trivial ?_
            refine P0.cd (d0 := 2) (as := [.ref 0, .int 111, .int 114, .int 0, .int 0, .int 0, .int 0, .int 0, .int 0]) (rest := []) (r1 := some (.int 0)) (h1 := hT g a (nI fr) (nI n) e76 tk76 pp76 w76 op76 1 (nI q76)) (st' := [.int 0]) GX11_isWord kX11_either3_16 rfl ⟨_, _, rfl, rfl, .inl ⟨_, _, _, _, rfl, rfl⟩⟩ (Nat.le_of_ble_eq_true rfl) (Nat.le_of_ble_eq_true rfl) (e_isWord_bad (c0 := 111) (c1 := 114) (c2 := 0) (c3 := 0) (c4 := 0) (c5 := 0) (c6 := 0) (c7 := 0)) (Nat.le_of_ble_eq_true rfl) rfl (Nat.le_of_ble_eq_true rfl) rfl ?_
            refine P0.b GX11_either3 2 (ob := []) (cf' := (49, [some (.ref 0), some (.int 1), some (.int v76)], [.int 1], hT g a (nI fr) (nI n) e76 tk76 pp76 w76 op76 1 (nI q76))) rfl trivial ?_
            exact P0.ri (by decide +kernel) rfl rfl (QP.no (pch_fail (show jEith (sg (Bt (a 1) fr n) p) = true from by rw [h1]; decide) hR76) 1 e76 tk76 pp76 w76 op76)
        · refine P0.b GX11_either3 4 (ob := []) (cf' := (5, [some (.ref 0), some (.int 1), some (.int v76)], [], hT g a (nI fr) (nI n) e76 tk76 pp76 w76 op76 1 (nI q76))) rfl trivial ?_
          refine P0.b GX11_either3 9 (ob := []) (cf' := (16, [some (.ref 0), some (.int 1), some (.int v76)], [.int 0, .int 0, .int 0, .int 0, .int 0, .int 0, .int 114, .int 111, .ref 0], hT g a (nI fr) (nI n) e76 tk76 pp76 w76 op76 1 (nI q76))) rfl trivial ?_
          refine P0.cd (d0 := 2) (as := [.ref 0, .int 111, .int 114, .int 0, .int 0, .int 0, .int 0, .int 0, .int 0]) (rest := []) (r1 := some (.int 0)) (h1 := hT g a (nI fr) (nI n) e76 tk76 pp76 w76 op76 1 (nI q76)) (st' := [.int 0]) GX11_isWord kX11_either3_16 rfl ⟨_, _, rfl, rfl, .inl ⟨_, _, _, _, rfl, rfl⟩⟩ (Nat.le_of_ble_eq_true rfl) (Nat.le_of_ble_eq_true rfl) (e_isWord_bad (c0 := 111) (c1 := 114) (c2 := 0) (c3 := 0) (c4 := 0) (c5 := 0) (c6 := 0) (c7 := 0)) (Nat.le_of_ble_eq_true rfl) rfl (Nat.le_of_ble_eq_true rfl) rfl ?_
          refine P0.b GX11_either3 2 (ob := []) (cf' := (49, [some (.ref 0), some (.int 1), some (.int v76)], [.int 1], hT g a (nI fr) (nI n) e76 tk76 pp76 w76 op76 1 (nI q76))) rfl trivial ?_
          exact P0.ri (by decide +kernel) rfl rfl (QP.no (pch_fail (show jEith (sg (Bt (a 1) fr n) p) = true from by rw [h1]; decide) hR76) 1 e76 tk76 pp76 w76 op76)
      · rw [hR76] at hq76
        obtain ⟨w76, fl76, rfl, rfl, hw76, hp76⟩ := hq76
        show P0 _ _ _ _ (30, [some (.ref 0), some (.int x), none], [.int x76], hT g a (nI fr) (nI n) (nI (en (Bt (a 1) fr n) p76)) (kd (Bt (a 1) fr n) p76) (nI p76) w76 op 0 fl76) _
        refine P0.b GX11_either3 3 (ob := []) (cf' := (if x = 0 then 35 else 39, [some (.ref 0), some (.int x), some (.int x76)], [], hT g a (nI fr) (nI n) (nI (en (Bt (a 1) fr n) p76)) (kd (Bt (a 1) fr n) p76) (nI p76) w76 op 0 fl76)) rfl trivial ?_
        refine P0.if (fun h4 => ?_) (fun h4 => ?_)
        · refine P0.b GX11_either3 2 (ob := []) (cf' := (if x76 = 0 then 43 else 39, [some (.ref 0), some (.int x), some (.int x76)], [], hT g a (nI fr) (nI n) (nI (en (Bt (a 1) fr n) p76)) (kd (Bt (a 1) fr n) p76) (nI p76) w76 op 0 fl76)) rfl trivial ?_
          refine P0.if (fun h5 => ?_) (fun h5 => ?_)
          · refine P0.b GX11_either3 3 (ob := []) (cf' := (5, [some (.ref 0), some (.int 0), some (.int x76)], [], hT g a (nI fr) (nI n) (nI (en (Bt (a 1) fr n) p76)) (kd (Bt (a 1) fr n) p76) (nI p76) w76 op 0 fl76)) rfl trivial ?_
            rw [pch_step (show jEith (sg (Bt (a 1) fr n) p) = true from by rw [h1]; decide) hR76, show (vA g).2.2 (sg (Bt (a 1) fr n) p) x x76 = (0 : Int32) from by rw [h1]; simp [vA, vBn, h4, h5]]
            refine P0.forget (ls' := [some (.ref 0), some (.int 0), none]) ⟨.inr rfl, .inr rfl, .inl rfl, trivial⟩ ?_
            exact lp_X11_either3 hT0 hop f _ _ _ _ hw76 hp76 (by have h1 := nx_lt (B := (Bt (a 1) fr n)) (p := p) (by rw [h1]; decide) (by rw [h1]; decide); have h2 := (prog_c0 nx_lt jB_ok (prog_not' nx_lt (prog_lvl nx_lt (vA g) 1 0) (prog_lvl nx_lt (vA g) 1 1) (prog_lvl nx_lt (vA g) 1 2))) _ _ _ hR76; omega)
          · refine P0.b GX11_either3 4 (ob := []) (cf' := (5, [some (.ref 0), some (.int 1), some (.int x76)], [], hT g a (nI fr) (nI n) (nI (en (Bt (a 1) fr n) p76)) (kd (Bt (a 1) fr n) p76) (nI p76) w76 op 0 fl76)) rfl trivial ?_
            rw [pch_step (show jEith (sg (Bt (a 1) fr n) p) = true from by rw [h1]; decide) hR76, show (vA g).2.2 (sg (Bt (a 1) fr n) p) x x76 = (1 : Int32) from by rw [h1]; simp [vA, vBn, h4, h5]]
            refine P0.forget (ls' := [some (.ref 0), some (.int 1), none]) ⟨.inr rfl, .inr rfl, .inl rfl, trivial⟩ ?_
            exact lp_X11_either3 hT0 hop f _ _ _ _ hw76 hp76 (by have h1 := nx_lt (B := (Bt (a 1) fr n)) (p := p) (by rw [h1]; decide) (by rw [h1]; decide); have h2 := (prog_c0 nx_lt jB_ok (prog_not' nx_lt (prog_lvl nx_lt (vA g) 1 0) (prog_lvl nx_lt (vA g) 1 1) (prog_lvl nx_lt (vA g) 1 2))) _ _ _ hR76; omega)
        · refine P0.b GX11_either3 4 (ob := []) (cf' := (5, [some (.ref 0), some (.int 1), some (.int x76)], [], hT g a (nI fr) (nI n) (nI (en (Bt (a 1) fr n) p76)) (kd (Bt (a 1) fr n) p76) (nI p76) w76 op 0 fl76)) rfl trivial ?_
          rw [pch_step (show jEith (sg (Bt (a 1) fr n) p) = true from by rw [h1]; decide) hR76, show (vA g).2.2 (sg (Bt (a 1) fr n) p) x x76 = (1 : Int32) from by rw [h1]; simp [vA, vBn, h4]]
          refine P0.forget (ls' := [some (.ref 0), some (.int 1), none]) ⟨.inr rfl, .inr rfl, .inl rfl, trivial⟩ ?_
          exact lp_X11_either3 hT0 hop f _ _ _ _ hw76 hp76 (by have h1 := nx_lt (B := (Bt (a 1) fr n)) (p := p) (by rw [h1]; decide) (by rw [h1]; decide); have h2 := (prog_c0 nx_lt jB_ok (prog_not' nx_lt (prog_lvl nx_lt (vA g) 1 0) (prog_lvl nx_lt (vA g) 1 1) (prog_lvl nx_lt (vA g) 1 2))) _ _ _ hR76; omega)
set_option maxHeartbeats 2000000 in
theorem e_X11_either3 {g : Nat → Int32} {a : Nat → Nat → Int32} {fr n : Nat} (hT0 : TxOK a fr n) {p : Nat} {w : Int64} {fl : Int32} (hw : wOK (Bt (a 1) fr n) p w) (hp : p ≤ n) {op : Int32} (hop : op = 3) : P0 21 0 0 mX11_either3 (0, ent 3 [.ref 0], [], hT g a (nI fr) (nI n) (nI (en (Bt (a 1) fr n) p)) (kd (Bt (a 1) fr n) p) (nI p) w op 0 fl) (QP g a fr n op (lvl (sg (Bt (a 1) fr n)) (nx (Bt (a 1) fr n)) (vA g) 2 0 p)) := by
  show P0 _ _ _ _ _ (QP g a fr n op (pc0 (sg (Bt (a 1) fr n)) (nx (Bt (a 1) fr n)) (vA g).2.2 jEith (pboth (sg (Bt (a 1) fr n)) (nx (Bt (a 1) fr n)) (vA g) true (lvl (sg (Bt (a 1) fr n)) (nx (Bt (a 1) fr n)) (vA g) 1 0) (lvl (sg (Bt (a 1) fr n)) (nx (Bt (a 1) fr n)) (vA g) 1 1) (lvl (sg (Bt (a 1) fr n)) (nx (Bt (a 1) fr n)) (vA g) 1 2)) p))
  refine P0.b GX11_either3 1 (ob := []) (cf' := (1, [some (.ref 0), none, none], [.ref 0], hT g a (nI fr) (nI n) (nI (en (Bt (a 1) fr n) p)) (kd (Bt (a 1) fr n) p) (nI p) w op 0 fl)) rfl trivial ?_
  refine P0.cs (as := [.ref 0]) (rest := []) GX11_both3 kX11_either3_1 rfl ⟨_, _, rfl, rfl, .inl ⟨_, _, _, _, rfl, rfl⟩⟩ (Nat.le_of_ble_eq_true rfl) (Nat.le_of_ble_eq_true rfl) (P0.mono (e_X11_both3 hT0 hw hp (op := op) hop) (Nat.le_of_ble_eq_true rfl) (Nat.zero_le _) (Nat.zero_le _) (fun _ _ q => q)) (Nat.le_of_ble_eq_true rfl) (fun _ _ q => q.len) ?_
  rintro r1077 h1077 hq77
  have hq77 : QP g a fr n op (pboth (sg (Bt (a 1) fr n)) (nx (Bt (a 1) fr n)) (vA g) true (lvl (sg (Bt (a 1) fr n)) (nx (Bt (a 1) fr n)) (vA g) 1 0) (lvl (sg (Bt (a 1) fr n)) (nx (Bt (a 1) fr n)) (vA g) 1 1) (lvl (sg (Bt (a 1) fr n)) (nx (Bt (a 1) fr n)) (vA g) 1 2) p) r1077 h1077 := hq77
  rcases hR77 : pboth (sg (Bt (a 1) fr n)) (nx (Bt (a 1) fr n)) (vA g) true (lvl (sg (Bt (a 1) fr n)) (nx (Bt (a 1) fr n)) (vA g) 1 0) (lvl (sg (Bt (a 1) fr n)) (nx (Bt (a 1) fr n)) (vA g) 1 1) (lvl (sg (Bt (a 1) fr n)) (nx (Bt (a 1) fr n)) (vA g) 1 2) p with q77 | ⟨x77, p77⟩
  · rw [hR77] at hq77
    obtain ⟨v77, e77, tk77, pp77, w77, op77, rfl, rfl⟩ := hq77
    show P0 _ _ _ _ (4, [some (.ref 0), none, none], [.int v77], hT g a (nI fr) (nI n) e77 tk77 pp77 w77 op77 1 (nI q77)) _
    refine P0.b GX11_either3 1 (ob := []) (cf' := (5, [some (.ref 0), some (.int v77), none], [], hT g a (nI fr) (nI n) e77 tk77 pp77 w77 op77 1 (nI q77))) rfl trivial ?_
    refine P0.b GX11_either3 9 (ob := []) (cf' := (16, [some (.ref 0), some (.int v77), none], [.int 0, .int 0, .int 0, .int 0, .int 0, .int 0, .int 114, .int 111, .ref 0], hT g a (nI fr) (nI n) e77 tk77 pp77 w77 op77 1 (nI q77))) rfl trivial ?_
    refine P0.cd (d0 := 2) (as := [.ref 0, .int 111, .int 114, .int 0, .int 0, .int 0, .int 0, .int 0, .int 0]) (rest := []) (r1 := some (.int 0)) (h1 := hT g a (nI fr) (nI n) e77 tk77 pp77 w77 op77 1 (nI q77)) (st' := [.int 0]) GX11_isWord kX11_either3_16 rfl ⟨_, _, rfl, rfl, .inl ⟨_, _, _, _, rfl, rfl⟩⟩ (Nat.le_of_ble_eq_true rfl) (Nat.le_of_ble_eq_true rfl) (e_isWord_bad (c0 := 111) (c1 := 114) (c2 := 0) (c3 := 0) (c4 := 0) (c5 := 0) (c6 := 0) (c7 := 0)) (Nat.le_of_ble_eq_true rfl) rfl (Nat.le_of_ble_eq_true rfl) rfl ?_
    refine P0.b GX11_either3 2 (ob := []) (cf' := (49, [some (.ref 0), some (.int v77), none], [.int v77], hT g a (nI fr) (nI n) e77 tk77 pp77 w77 op77 1 (nI q77))) rfl trivial ?_
    exact P0.ri (by decide +kernel) rfl rfl (QP.no (pc0_no hR77) v77 e77 tk77 pp77 w77 op77)
  · rw [hR77] at hq77
    obtain ⟨w77, fl77, rfl, rfl, hw77, hp77⟩ := hq77
    show P0 _ _ _ _ (4, [some (.ref 0), none, none], [.int x77], hT g a (nI fr) (nI n) (nI (en (Bt (a 1) fr n) p77)) (kd (Bt (a 1) fr n) p77) (nI p77) w77 op 0 fl77) _
    refine P0.b GX11_either3 1 (ob := []) (cf' := (5, [some (.ref 0), some (.int x77), none], [], hT g a (nI fr) (nI n) (nI (en (Bt (a 1) fr n) p77)) (kd (Bt (a 1) fr n) p77) (nI p77) w77 op 0 fl77)) rfl trivial ?_
    rw [pc0_yes hR77]
    exact lp_X11_either3 hT0 hop 200 _ _ _ _ hw77 hp77 (by have := hT0.2.1; omega)
