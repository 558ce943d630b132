/-! ===== laid by program (wip/tools) ===== -/
set_option maxHeartbeats 2000000 in
theorem e_X11_atom4 {g : Nat → Int32} {a : Nat → Nat → Int32} {fr n : Nat} (hT0 : TxOK a fr n) {p : Nat} {w : Int64} {fl : Int32} (hw : wOK (Bt (a 1) fr n) p w) (hp : p ≤ n) {op : Int32} (hop : op = 4) : P0 10 0 0 mX11_atom4 (0, ent 2 [.ref 0], [], hT g a (nI fr) (nI n) (nI (en (Bt (a 1) fr n) p)) (kd (Bt (a 1) fr n) p) (nI p) w op 0 fl) (QP g a fr n op (lvl (sg (Bt (a 1) fr n)) (nx (Bt (a 1) fr n)) (vA g) 1 2 p)) := by
  show P0 _ _ _ _ _ (QP g a fr n op (pone (sg (Bt (a 1) fr n)) (nx (Bt (a 1) fr n)) (vA g) true (lvl (sg (Bt (a 1) fr n)) (nx (Bt (a 1) fr n)) (vA g) 0 0) (lvl (sg (Bt (a 1) fr n)) (nx (Bt (a 1) fr n)) (vA g) 0 2) p))
  refine P0.b GX11_atom4 4 (ob := []) (cf' := (5, [some (.ref 0), some (.int 0)], [.int 45, .ref 0], hT g a (nI fr) (nI n) (nI (en (Bt (a 1) fr n) p)) (kd (Bt (a 1) fr n) p) (nI p) w op 0 fl)) rfl trivial ?_
  refine P0.cd (d0 := 0) (as := [.ref 0, .int 45]) (rest := []) (r1 := some (.int (if sg (Bt (a 1) fr n) p = (-17) then 1 else 0))) (h1 := hT g a (nI fr) (nI n) (nI (en (Bt (a 1) fr n) p)) (kd (Bt (a 1) fr n) p) (nI p) w op 0 fl) (st' := [.int (if sg (Bt (a 1) fr n) p = (-17) then 1 else 0)]) GX11_isSign kX11_atom4_5 rfl ⟨_, _, rfl, rfl, .inl ⟨_, _, _, _, rfl, rfl⟩⟩ (Nat.le_of_ble_eq_true rfl) (Nat.le_of_ble_eq_true rfl) (e_isSign_ok hw (c := 45) (code := (-17)) (by decide +kernel)) (Nat.le_of_ble_eq_true rfl) rfl (Nat.le_of_ble_eq_true rfl) rfl ?_
  refine P0.b GX11_atom4 1 (ob := []) (cf' := (if (if sg (Bt (a 1) fr n) p = (-17) then 1 else 0) = 0 then 37 else 11, [some (.ref 0), some (.int 0)], [], hT g a (nI fr) (nI n) (nI (en (Bt (a 1) fr n) p)) (kd (Bt (a 1) fr n) p) (nI p) w op 0 fl)) rfl trivial ?_
  refine P0.ifB (fun h1 => ?_) (fun h1 => ?_)
  · refine P0.b GX11_atom4 2 (ob := []) (cf' := (40, [some (.ref 0), some (.int 0)], [.int 40, .ref 0], hT g a (nI fr) (nI n) (nI (en (Bt (a 1) fr n) p)) (kd (Bt (a 1) fr n) p) (nI p) w op 0 fl)) rfl trivial ?_
    refine P0.cd (d0 := 0) (as := [.ref 0, .int 40]) (rest := []) (r1 := some (.int (if sg (Bt (a 1) fr n) p = (-13) then 1 else 0))) (h1 := hT g a (nI fr) (nI n) (nI (en (Bt (a 1) fr n) p)) (kd (Bt (a 1) fr n) p) (nI p) w op 0 fl) (st' := [.int (if sg (Bt (a 1) fr n) p = (-13) then 1 else 0)]) GX11_isSign kX11_atom4_40 rfl ⟨_, _, rfl, rfl, .inl ⟨_, _, _, _, rfl, rfl⟩⟩ (Nat.le_of_ble_eq_true rfl) (Nat.le_of_ble_eq_true rfl) (e_isSign_ok hw (c := 40) (code := (-13)) (by decide +kernel)) (Nat.le_of_ble_eq_true rfl) rfl (Nat.le_of_ble_eq_true rfl) rfl ?_
    refine P0.b GX11_atom4 1 (ob := []) (cf' := (if (if sg (Bt (a 1) fr n) p = (-13) then 1 else 0) = 0 then 95 else 46, [some (.ref 0), some (.int 0)], [], hT g a (nI fr) (nI n) (nI (en (Bt (a 1) fr n) p)) (kd (Bt (a 1) fr n) p) (nI p) w op 0 fl)) rfl trivial ?_
    refine P0.ifB (fun h2 => ?_) (fun h2 => ?_)
    · refine P0.b GX11_atom4 7 (ob := []) (cf' := (if kd (Bt (a 1) fr n) p = 2 then 110 else 123, [some (.ref 0), some (.int 0)], [], hT g a (nI fr) (nI n) (nI (en (Bt (a 1) fr n) p)) (kd (Bt (a 1) fr n) p) (nI p) w op 0 fl)) rfl trivial ?_
      refine P0.if (fun h3 => ?_) (fun h3 => ?_)
      · refine P0.b GX11_atom4 5 (ob := []) (cf' := (117, [some (.ref 0), some (.int w.toInt32)], [.ref 0], hT g a (nI fr) (nI n) (nI (en (Bt (a 1) fr n) p)) (kd (Bt (a 1) fr n) p) (nI p) w op 0 fl)) rfl trivial ?_
        refine P0.cs (as := [.ref 0]) (rest := []) GX11_nextToken kX11_atom4_117 rfl ⟨_, _, rfl, rfl, .inl ⟨_, _, _, _, rfl, rfl⟩⟩ (Nat.le_of_ble_eq_true rfl) (Nat.le_of_ble_eq_true rfl) (P0.mono (e_X11_nextToken hT0 (en (Bt (a 1) fr n) p) (en_le hp) _ _ _ _ _ _) (Nat.le_of_ble_eq_true rfl) (Nat.zero_le _) (Nat.zero_le _) (fun _ _ q => q)) (Nat.le_of_ble_eq_true rfl) (fun _ _ q => q.len) ?_
        rintro _ _ ⟨w20, rfl, rfl, hw20⟩
        have hp20 := nx_le (f := a 1) (fr := fr) hp
        show P0 _ _ _ _ (120, [some (.ref 0), some (.int w.toInt32)], [], hT g a (nI fr) (nI n) (nI (en (Bt (a 1) fr n) (nx (Bt (a 1) fr n) p))) (kd (Bt (a 1) fr n) (nx (Bt (a 1) fr n) p)) (nI (nx (Bt (a 1) fr n) p)) w20 op 0 fl) _
        refine P0.b GX11_atom4 2 (ob := []) (cf' := (162, [some (.ref 0), some (.int w.toInt32)], [.int w.toInt32], hT g a (nI fr) (nI n) (nI (en (Bt (a 1) fr n) (nx (Bt (a 1) fr n) p))) (kd (Bt (a 1) fr n) (nx (Bt (a 1) fr n) p)) (nI (nx (Bt (a 1) fr n) p)) w20 op 0 fl)) rfl trivial ?_
        exact P0.ri (by decide +kernel) rfl rfl (QP.yes (pone_num h3 hw) hw20 hp20)
      · refine P0.b GX11_atom4 7 (ob := []) (cf' := (if kd (Bt (a 1) fr n) p = 1 then 138 else 157, [some (.ref 0), some (.int 0)], [], hT g a (nI fr) (nI n) (nI (en (Bt (a 1) fr n) p)) (kd (Bt (a 1) fr n) p) (nI p) w op 0 fl)) rfl trivial ?_
        refine P0.if (fun h4 => ?_) (fun h4 => ?_)
        · refine P0.b GX11_atom4 1 (ob := []) (cf' := (139, [some (.ref 0), some (.int 0)], [.ref 0], hT g a (nI fr) (nI n) (nI (en (Bt (a 1) fr n) p)) (kd (Bt (a 1) fr n) p) (nI p) w op 0 fl)) rfl trivial ?_
          refine P0.cs (as := [.ref 0]) (rest := []) GX11_name kX11_atom4_139 rfl ⟨_, _, rfl, rfl, .inl ⟨_, _, _, _, rfl, rfl⟩⟩ (Nat.le_of_ble_eq_true rfl) (Nat.le_of_ble_eq_true rfl) (P0.mono (e_X11_name hT0 hw hp h4) (Nat.le_of_ble_eq_true rfl) (Nat.zero_le _) (Nat.zero_le _) (fun _ _ q => q)) (Nat.le_of_ble_eq_true rfl) (fun _ _ q => by rcases q with ⟨_, _, rfl⟩ | ⟨_, _, rfl⟩ <;> exact hT_len.trans hT_len.symm) ?_
          rintro _ _ (⟨hN21, rfl, rfl⟩ | ⟨hN21, rfl, rfl⟩)
          · show P0 _ _ _ _ (142, [some (.ref 0), some (.int 0)], [.int (vNm g (sg (Bt (a 1) fr n) p))], hT g a (nI fr) (nI n) (nI (en (Bt (a 1) fr n) p)) (kd (Bt (a 1) fr n) p) (nI p) w op 0 fl) _
            refine P0.b GX11_atom4 5 (ob := []) (cf' := (151, [some (.ref 0), some (.int (vNm g (sg (Bt (a 1) fr n) p)))], [.ref 0], hT g a (nI fr) (nI n) (nI (en (Bt (a 1) fr n) p)) (kd (Bt (a 1) fr n) p) (nI p) w op 0 fl)) rfl trivial ?_
            refine P0.cs (as := [.ref 0]) (rest := []) GX11_nextToken kX11_atom4_151 rfl ⟨_, _, rfl, rfl, .inl ⟨_, _, _, _, rfl, rfl⟩⟩ (Nat.le_of_ble_eq_true rfl) (Nat.le_of_ble_eq_true rfl) (P0.mono (e_X11_nextToken hT0 (en (Bt (a 1) fr n) p) (en_le hp) _ _ _ _ _ _) (Nat.le_of_ble_eq_true rfl) (Nat.zero_le _) (Nat.zero_le _) (fun _ _ q => q)) (Nat.le_of_ble_eq_true rfl) (fun _ _ q => q.len) ?_
            rintro _ _ ⟨w22, rfl, rfl, hw22⟩
            have hp22 := nx_le (f := a 1) (fr := fr) hp
            show P0 _ _ _ _ (154, [some (.ref 0), some (.int (vNm g (sg (Bt (a 1) fr n) p)))], [], hT g a (nI fr) (nI n) (nI (en (Bt (a 1) fr n) (nx (Bt (a 1) fr n) p))) (kd (Bt (a 1) fr n) (nx (Bt (a 1) fr n) p)) (nI (nx (Bt (a 1) fr n) p)) w22 op 0 fl) _
            refine P0.b GX11_atom4 2 (ob := []) (cf' := (162, [some (.ref 0), some (.int (vNm g (sg (Bt (a 1) fr n) p)))], [.int (vNm g (sg (Bt (a 1) fr n) p))], hT g a (nI fr) (nI n) (nI (en (Bt (a 1) fr n) (nx (Bt (a 1) fr n) p))) (kd (Bt (a 1) fr n) (nx (Bt (a 1) fr n) p)) (nI (nx (Bt (a 1) fr n) p)) w22 op 0 fl)) rfl trivial ?_
            exact P0.ri (by decide +kernel) rfl rfl (QP.yes (pone_val hN21) hw22 hp22)
          · show P0 _ _ _ _ (142, [some (.ref 0), some (.int 0)], [.int 0], hT g a (nI fr) (nI n) (nI (en (Bt (a 1) fr n) p)) (kd (Bt (a 1) fr n) p) (nI p) w op 1 (nI p)) _
            refine P0.b GX11_atom4 5 (ob := []) (cf' := (162, [some (.ref 0), some (.int 0)], [.int 0], hT g a (nI fr) (nI n) (nI (en (Bt (a 1) fr n) p)) (kd (Bt (a 1) fr n) p) (nI p) w op 1 (nI p))) rfl trivial ?_
            exact P0.ri (by decide +kernel) rfl rfl (QP.no (pone_bad hN21 h1 h2) 0 (nI (en (Bt (a 1) fr n) p)) (kd (Bt (a 1) fr n) p) (nI p) w op)
        · refine P0.b GX11_atom4 1 (ob := []) (cf' := (158, [some (.ref 0), some (.int 0)], [.ref 0], hT g a (nI fr) (nI n) (nI (en (Bt (a 1) fr n) p)) (kd (Bt (a 1) fr n) p) (nI p) w op 0 fl)) rfl trivial ?_
          refine P0.cd (d0 := 0) (as := [.ref 0]) (rest := []) (r1 := none) (h1 := hT g a (nI fr) (nI n) (nI (en (Bt (a 1) fr n) p)) (kd (Bt (a 1) fr n) p) (nI p) w op 1 (nI p)) (st' := []) GX11_fail kX11_atom4_158 rfl ⟨_, _, rfl, rfl, .inl ⟨_, _, _, _, rfl, rfl⟩⟩ (Nat.le_of_ble_eq_true rfl) (Nat.le_of_ble_eq_true rfl) (e_fail_ok) (Nat.le_of_ble_eq_true rfl) rfl (Nat.le_of_ble_eq_true rfl) rfl ?_
          refine P0.b GX11_atom4 1 (ob := []) (cf' := (162, [some (.ref 0), some (.int 0)], [.int 0], hT g a (nI fr) (nI n) (nI (en (Bt (a 1) fr n) p)) (kd (Bt (a 1) fr n) p) (nI p) w op 1 (nI p))) rfl trivial ?_
          exact P0.ri (by decide +kernel) rfl rfl (QP.no (pone_bad (kdN h3 h4) h1 h2) 0 (nI (en (Bt (a 1) fr n) p)) (kd (Bt (a 1) fr n) p) (nI p) w op)
    · refine P0.b GX11_atom4 1 (ob := []) (cf' := (47, [some (.ref 0), some (.int 0)], [.ref 0], hT g a (nI fr) (nI n) (nI (en (Bt (a 1) fr n) p)) (kd (Bt (a 1) fr n) p) (nI p) w op 0 fl)) rfl trivial ?_
      refine P0.cs (as := [.ref 0]) (rest := []) GX11_opens kX11_atom4_47 rfl ⟨_, _, rfl, rfl, .inl ⟨_, _, _, _, rfl, rfl⟩⟩ (Nat.le_of_ble_eq_true rfl) (Nat.le_of_ble_eq_true rfl) (P0.mono (e_opens_yes hT0 hp (op := op) (by rw [hop]; decide)) (Nat.le_of_ble_eq_true rfl) (Nat.zero_le _) (Nat.zero_le _) (fun _ _ q => q)) (Nat.le_of_ble_eq_true rfl) (fun _ _ q => by obtain ⟨_, _, rfl, _⟩ := q; exact hT_len.trans hT_len.symm) ?_
      rintro _ _ ⟨w23, rfl, rfl, hw23⟩
      have hp23 := nx_le (f := a 1) (fr := fr) hp
      show P0 _ _ _ _ (50, [some (.ref 0), some (.int 0)], [.int 1], hT g a (nI fr) (nI n) (nI (en (Bt (a 1) fr n) (nx (Bt (a 1) fr n) p))) (kd (Bt (a 1) fr n) (nx (Bt (a 1) fr n) p)) (nI (nx (Bt (a 1) fr n) p)) w23 (op + 1) 0 fl) _
      refine P0.b GX11_atom4 2 (ob := []) (cf' := (54, [some (.ref 0), some (.int 0)], [.ref 0], hT g a (nI fr) (nI n) (nI (en (Bt (a 1) fr n) (nx (Bt (a 1) fr n) p))) (kd (Bt (a 1) fr n) (nx (Bt (a 1) fr n) p)) (nI (nx (Bt (a 1) fr n) p)) w23 (op + 1) 0 fl)) rfl trivial ?_
      refine P0.cs (as := [.ref 0]) (rest := []) GX11_either5 kX11_atom4_54 rfl ⟨_, _, rfl, rfl, .inl ⟨_, _, _, _, rfl, rfl⟩⟩ (Nat.le_of_ble_eq_true rfl) (Nat.le_of_ble_eq_true rfl) (P0.mono (e_X11_either5 hT0 hw23 hp23 (op := op + 1) (by rw [hop]; decide)) (Nat.le_of_ble_eq_true rfl) (Nat.zero_le _) (Nat.zero_le _) (fun _ _ q => q)) (Nat.le_of_ble_eq_true rfl) (fun _ _ q => q.len) ?_
      rintro r1024 h1024 hq24
      have hq24 : QP g a fr n (op + 1) (lvl (sg (Bt (a 1) fr n)) (nx (Bt (a 1) fr n)) (vA g) 0 0 (nx (Bt (a 1) fr n) p)) r1024 h1024 := hq24
      rcases hR24 : lvl (sg (Bt (a 1) fr n)) (nx (Bt (a 1) fr n)) (vA g) 0 0 (nx (Bt (a 1) fr n) p) with q24 | ⟨x24, p24⟩
      · rw [hR24] at hq24
        obtain ⟨v24, e24, tk24, pp24, w24, op24, rfl, rfl⟩ := hq24
        show P0 _ _ _ _ (57, [some (.ref 0), some (.int 0)], [.int v24], hT g a (nI fr) (nI n) e24 tk24 pp24 w24 op24 1 (nI q24)) _
        refine P0.b GX11_atom4 3 (ob := []) (cf' := (61, [some (.ref 0), some (.int v24)], [.int 41, .ref 0], hT g a (nI fr) (nI n) e24 tk24 pp24 w24 op24 1 (nI q24))) rfl trivial ?_
        refine P0.cd (d0 := 0) (as := [.ref 0, .int 41]) (rest := []) (r1 := some (.int 0)) (h1 := hT g a (nI fr) (nI n) e24 tk24 pp24 w24 op24 1 (nI q24)) (st' := [.int 0]) GX11_isSign kX11_atom4_61 rfl ⟨_, _, rfl, rfl, .inl ⟨_, _, _, _, rfl, rfl⟩⟩ (Nat.le_of_ble_eq_true rfl) (Nat.le_of_ble_eq_true rfl) (e_isSign_bad (c := 41)) (Nat.le_of_ble_eq_true rfl) rfl (Nat.le_of_ble_eq_true rfl) rfl ?_
        refine P0.b GX11_atom4 2 (ob := []) (cf' := (68, [some (.ref 0), some (.int v24)], [.ref 0], hT g a (nI fr) (nI n) e24 tk24 pp24 w24 op24 1 (nI q24))) rfl trivial ?_
        refine P0.cd (d0 := 0) (as := [.ref 0]) (rest := []) (r1 := none) (h1 := hT g a (nI fr) (nI n) e24 tk24 pp24 w24 op24 1 (nI q24)) (st' := []) GX11_fail kX11_atom4_68 rfl ⟨_, _, rfl, rfl, .inl ⟨_, _, _, _, rfl, rfl⟩⟩ (Nat.le_of_ble_eq_true rfl) (Nat.le_of_ble_eq_true rfl) (e_fail_bad) (Nat.le_of_ble_eq_true rfl) rfl (Nat.le_of_ble_eq_true rfl) rfl ?_
        refine P0.b GX11_atom4 10 (ob := []) (cf' := (162, [some (.ref 0), some (.int v24)], [.int v24], hT g a (nI fr) (nI n) e24 tk24 pp24 w24 (op24 - 1) 1 (nI q24))) rfl trivial ?_
        exact P0.ri (by decide +kernel) rfl rfl (QP.no (pone_par_no h2 hR24) v24 e24 tk24 pp24 w24 (op24 - 1))
      · rw [hR24] at hq24
        obtain ⟨w24, fl24, rfl, rfl, hw24, hp24⟩ := hq24
        show P0 _ _ _ _ (57, [some (.ref 0), some (.int 0)], [.int x24], hT g a (nI fr) (nI n) (nI (en (Bt (a 1) fr n) p24)) (kd (Bt (a 1) fr n) p24) (nI p24) w24 (op + 1) 0 fl24) _
        refine P0.b GX11_atom4 3 (ob := []) (cf' := (61, [some (.ref 0), some (.int x24)], [.int 41, .ref 0], hT g a (nI fr) (nI n) (nI (en (Bt (a 1) fr n) p24)) (kd (Bt (a 1) fr n) p24) (nI p24) w24 (op + 1) 0 fl24)) rfl trivial ?_
        refine P0.cd (d0 := 0) (as := [.ref 0, .int 41]) (rest := []) (r1 := some (.int (if sg (Bt (a 1) fr n) p24 = (-14) then 1 else 0))) (h1 := hT g a (nI fr) (nI n) (nI (en (Bt (a 1) fr n) p24)) (kd (Bt (a 1) fr n) p24) (nI p24) w24 (op + 1) 0 fl24) (st' := [.int (if sg (Bt (a 1) fr n) p24 = (-14) then 1 else 0)]) GX11_isSign kX11_atom4_61 rfl ⟨_, _, rfl, rfl, .inl ⟨_, _, _, _, rfl, rfl⟩⟩ (Nat.le_of_ble_eq_true rfl) (Nat.le_of_ble_eq_true rfl) (e_isSign_ok hw24 (c := 41) (code := (-14)) (by decide +kernel)) (Nat.le_of_ble_eq_true rfl) rfl (Nat.le_of_ble_eq_true rfl) rfl ?_
        refine P0.b GX11_atom4 1 (ob := []) (cf' := (if (if sg (Bt (a 1) fr n) p24 = (-14) then 1 else 0) = 0 then 67 else 71, [some (.ref 0), some (.int x24)], [], hT g a (nI fr) (nI n) (nI (en (Bt (a 1) fr n) p24)) (kd (Bt (a 1) fr n) p24) (nI p24) w24 (op + 1) 0 fl24)) rfl trivial ?_
        refine P0.ifB (fun h5 => ?_) (fun h5 => ?_)
        · refine P0.b GX11_atom4 1 (ob := []) (cf' := (68, [some (.ref 0), some (.int x24)], [.ref 0], hT g a (nI fr) (nI n) (nI (en (Bt (a 1) fr n) p24)) (kd (Bt (a 1) fr n) p24) (nI p24) w24 (op + 1) 0 fl24)) rfl trivial ?_
          refine P0.cd (d0 := 0) (as := [.ref 0]) (rest := []) (r1 := none) (h1 := hT g a (nI fr) (nI n) (nI (en (Bt (a 1) fr n) p24)) (kd (Bt (a 1) fr n) p24) (nI p24) w24 (op + 1) 1 (nI p24)) (st' := []) GX11_fail kX11_atom4_68 rfl ⟨_, _, rfl, rfl, .inl ⟨_, _, _, _, rfl, rfl⟩⟩ (Nat.le_of_ble_eq_true rfl) (Nat.le_of_ble_eq_true rfl) (e_fail_ok) (Nat.le_of_ble_eq_true rfl) rfl (Nat.le_of_ble_eq_true rfl) rfl ?_
          refine P0.b GX11_atom4 10 (ob := []) (cf' := (162, [some (.ref 0), some (.int x24)], [.int x24], hT g a (nI fr) (nI n) (nI (en (Bt (a 1) fr n) p24)) (kd (Bt (a 1) fr n) p24) (nI p24) w24 ((op + 1) - 1) 1 (nI p24))) rfl trivial ?_
          rw [show (op + 1) - 1 = op from by rw [hop]; decide]
          exact P0.ri (by decide +kernel) rfl rfl (QP.no (pone_par_bad h2 hR24 h5) x24 (nI (en (Bt (a 1) fr n) p24)) (kd (Bt (a 1) fr n) p24) (nI p24) w24 op)
        · refine P0.b GX11_atom4 10 (ob := []) (cf' := (89, [some (.ref 0), some (.int x24)], [.ref 0], hT g a (nI fr) (nI n) (nI (en (Bt (a 1) fr n) p24)) (kd (Bt (a 1) fr n) p24) (nI p24) w24 ((op + 1) - 1) 0 fl24)) rfl trivial ?_
          rw [show (op + 1) - 1 = op from by rw [hop]; decide]
          refine P0.cs (as := [.ref 0]) (rest := []) GX11_nextToken kX11_atom4_89 rfl ⟨_, _, rfl, rfl, .inl ⟨_, _, _, _, rfl, rfl⟩⟩ (Nat.le_of_ble_eq_true rfl) (Nat.le_of_ble_eq_true rfl) (P0.mono (e_X11_nextToken hT0 (en (Bt (a 1) fr n) p24) (en_le hp24) _ _ _ _ _ _) (Nat.le_of_ble_eq_true rfl) (Nat.zero_le _) (Nat.zero_le _) (fun _ _ q => q)) (Nat.le_of_ble_eq_true rfl) (fun _ _ q => q.len) ?_
          rintro _ _ ⟨w25, rfl, rfl, hw25⟩
          have hp25 := nx_le (f := a 1) (fr := fr) hp24
          show P0 _ _ _ _ (92, [some (.ref 0), some (.int x24)], [], hT g a (nI fr) (nI n) (nI (en (Bt (a 1) fr n) (nx (Bt (a 1) fr n) p24))) (kd (Bt (a 1) fr n) (nx (Bt (a 1) fr n) p24)) (nI (nx (Bt (a 1) fr n) p24)) w25 op 0 fl24) _
          refine P0.b GX11_atom4 2 (ob := []) (cf' := (162, [some (.ref 0), some (.int x24)], [.int x24], hT g a (nI fr) (nI n) (nI (en (Bt (a 1) fr n) (nx (Bt (a 1) fr n) p24))) (kd (Bt (a 1) fr n) (nx (Bt (a 1) fr n) p24)) (nI (nx (Bt (a 1) fr n) p24)) w25 op 0 fl24)) rfl trivial ?_
          exact P0.ri (by decide +kernel) rfl rfl (QP.yes (pone_par_yes h2 hR24 h5) hw25 hp25)
  · refine P0.b GX11_atom4 1 (ob := []) (cf' := (12, [some (.ref 0), some (.int 0)], [.ref 0], hT g a (nI fr) (nI n) (nI (en (Bt (a 1) fr n) p)) (kd (Bt (a 1) fr n) p) (nI p) w op 0 fl)) rfl trivial ?_
    refine P0.cs (as := [.ref 0]) (rest := []) GX11_opens kX11_atom4_12 rfl ⟨_, _, rfl, rfl, .inl ⟨_, _, _, _, rfl, rfl⟩⟩ (Nat.le_of_ble_eq_true rfl) (Nat.le_of_ble_eq_true rfl) (P0.mono (e_opens_yes hT0 hp (op := op) (by rw [hop]; decide)) (Nat.le_of_ble_eq_true rfl) (Nat.zero_le _) (Nat.zero_le _) (fun _ _ q => q)) (Nat.le_of_ble_eq_true rfl) (fun _ _ q => by obtain ⟨_, _, rfl, _⟩ := q; exact hT_len.trans hT_len.symm) ?_
    rintro _ _ ⟨w26, rfl, rfl, hw26⟩
    have hp26 := nx_le (f := a 1) (fr := fr) hp
    show P0 _ _ _ _ (15, [some (.ref 0), some (.int 0)], [.int 1], hT g a (nI fr) (nI n) (nI (en (Bt (a 1) fr n) (nx (Bt (a 1) fr n) p))) (kd (Bt (a 1) fr n) (nx (Bt (a 1) fr n) p)) (nI (nx (Bt (a 1) fr n) p)) w26 (op + 1) 0 fl) _
    refine P0.b GX11_atom4 2 (ob := []) (cf' := (19, [some (.ref 0), some (.int 0)], [.ref 0], hT g a (nI fr) (nI n) (nI (en (Bt (a 1) fr n) (nx (Bt (a 1) fr n) p))) (kd (Bt (a 1) fr n) (nx (Bt (a 1) fr n) p)) (nI (nx (Bt (a 1) fr n) p)) w26 (op + 1) 0 fl)) rfl trivial ?_
    refine P0.cs (as := [.ref 0]) (rest := []) GX11_atom5 kX11_atom4_19 rfl ⟨_, _, rfl, rfl, .inl ⟨_, _, _, _, rfl, rfl⟩⟩ (Nat.le_of_ble_eq_true rfl) (Nat.le_of_ble_eq_true rfl) (P0.mono (e_X11_atom5 hT0 hw26 hp26 (op := op + 1) (by rw [hop]; decide)) (Nat.le_of_ble_eq_true rfl) (Nat.zero_le _) (Nat.zero_le _) (fun _ _ q => q)) (Nat.le_of_ble_eq_true rfl) (fun _ _ q => q.len) ?_
    rintro r1027 h1027 hq27
    have hq27 : QP g a fr n (op + 1) (lvl (sg (Bt (a 1) fr n)) (nx (Bt (a 1) fr n)) (vA g) 0 2 (nx (Bt (a 1) fr n) p)) r1027 h1027 := hq27
    rcases hR27 : lvl (sg (Bt (a 1) fr n)) (nx (Bt (a 1) fr n)) (vA g) 0 2 (nx (Bt (a 1) fr n) p) with q27 | ⟨x27, p27⟩
    · rw [hR27] at hq27
      obtain ⟨v27, e27, tk27, pp27, w27, op27, rfl, rfl⟩ := hq27
      show P0 _ _ _ _ (22, [some (.ref 0), some (.int 0)], [.int v27], hT g a (nI fr) (nI n) e27 tk27 pp27 w27 op27 1 (nI q27)) _
      refine P0.b GX11_atom4 10 (ob := []) (cf' := (162, [some (.ref 0), some (.int (-v27))], [.int (-v27)], hT g a (nI fr) (nI n) e27 tk27 pp27 w27 (op27 - 1) 1 (nI q27))) rfl trivial ?_
      exact P0.ri (by decide +kernel) rfl rfl (QP.no (pone_neg_no h1 hR27) (-v27) e27 tk27 pp27 w27 (op27 - 1))
    · rw [hR27] at hq27
      obtain ⟨w27, fl27, rfl, rfl, hw27, hp27⟩ := hq27
      show P0 _ _ _ _ (22, [some (.ref 0), some (.int 0)], [.int x27], hT g a (nI fr) (nI n) (nI (en (Bt (a 1) fr n) p27)) (kd (Bt (a 1) fr n) p27) (nI p27) w27 (op + 1) 0 fl27) _
      refine P0.b GX11_atom4 10 (ob := []) (cf' := (162, [some (.ref 0), some (.int (-x27))], [.int (-x27)], hT g a (nI fr) (nI n) (nI (en (Bt (a 1) fr n) p27)) (kd (Bt (a 1) fr n) p27) (nI p27) w27 ((op + 1) - 1) 0 fl27)) rfl trivial ?_
      rw [show (op + 1) - 1 = op from by rw [hop]; decide]
      exact P0.ri (by decide +kernel) rfl rfl (QP.yes (pone_neg_yes h1 hR27 rfl) hw27 hp27)
set_option maxHeartbeats 2000000 in
theorem lp_X11_term4 {g : Nat → Int32} {a : Nat → Nat → Int32} {fr n : Nat} (hT0 : TxOK a fr n) {op : Int32} (hop : op = 4) : ∀ (f : Nat) (x : Int32) (p : Nat) (w : Int64) (fl : Int32), wOK (Bt (a 1) fr n) p w → p ≤ n → n ≤ p + f → P0 11 0 0 mX11_term4 (5, [some (.ref 0), some (.int x)], [], hT g a (nI fr) (nI n) (nI (en (Bt (a 1) fr n) p)) (kd (Bt (a 1) fr n) p) (nI p) w op 0 fl) (QP g a fr n op (pch (sg (Bt (a 1) fr n)) (nx (Bt (a 1) fr n)) (vA g).2.2 jTerm (pone (sg (Bt (a 1) fr n)) (nx (Bt (a 1) fr n)) (vA g) true (lvl (sg (Bt (a 1) fr n)) (nx (Bt (a 1) fr n)) (vA g) 0 0) (lvl (sg (Bt (a 1) fr n)) (nx (Bt (a 1) fr n)) (vA g) 0 2)) f x p))
  | 0, x, p, w, fl, hw, hp, hpf => by
    refine P0.b GX11_term4 2 (ob := []) (cf' := (8, [some (.ref 0), some (.int x)], [.int 42, .ref 0], hT g a (nI fr) (nI n) (nI (en (Bt (a 1) fr n) p)) (kd (Bt (a 1) fr n) p) (nI p) w op 0 fl)) rfl trivial ?_
    refine P0.cd (d0 := 0) (as := [.ref 0, .int 42]) (rest := []) (r1 := some (.int (if sg (Bt (a 1) fr n) p = (-18) then 1 else 0))) (h1 := hT g a (nI fr) (nI n) (nI (en (Bt (a 1) fr n) p)) (kd (Bt (a 1) fr n) p) (nI p) w op 0 fl) (st' := [.int (if sg (Bt (a 1) fr n) p = (-18) then 1 else 0)]) GX11_isSign kX11_term4_8 rfl ⟨_, _, rfl, rfl, .inl ⟨_, _, _, _, rfl, rfl⟩⟩ (Nat.le_of_ble_eq_true rfl) (Nat.le_of_ble_eq_true rfl) (e_isSign_ok hw (c := 42) (code := (-18)) (by decide +kernel)) (Nat.le_of_ble_eq_true rfl) rfl (Nat.le_of_ble_eq_true rfl) rfl ?_
    refine P0.b GX11_term4 1 (ob := []) (cf' := (if (if sg (Bt (a 1) fr n) p = (-18) then 1 else 0) = 0 then 28 else 14, [some (.ref 0), some (.int x)], [], hT g a (nI fr) (nI n) (nI (en (Bt (a 1) fr n) p)) (kd (Bt (a 1) fr n) p) (nI p) w op 0 fl)) rfl trivial ?_
    rw [if_neg (show ¬ (sg (Bt (a 1) fr n) p = (-18)) from by rw [sg_end hpf]; decide), if_pos rfl]
    refine P0.b GX11_term4 1 (ob := []) (cf' := (29, [some (.ref 0), some (.int x)], [.int x], hT g a (nI fr) (nI n) (nI (en (Bt (a 1) fr n) p)) (kd (Bt (a 1) fr n) p) (nI p) w op 0 fl)) rfl trivial ?_
    exact P0.ri (by decide +kernel) rfl rfl (QP.yes rfl hw hp)
  | f + 1, x, p, w, fl, hw, hp, hpf => by
    refine P0.b GX11_term4 2 (ob := []) (cf' := (8, [some (.ref 0), some (.int x)], [.int 42, .ref 0], hT g a (nI fr) (nI n) (nI (en (Bt (a 1) fr n) p)) (kd (Bt (a 1) fr n) p) (nI p) w op 0 fl)) rfl trivial ?_
    refine P0.cd (d0 := 0) (as := [.ref 0, .int 42]) (rest := []) (r1 := some (.int (if sg (Bt (a 1) fr n) p = (-18) then 1 else 0))) (h1 := hT g a (nI fr) (nI n) (nI (en (Bt (a 1) fr n) p)) (kd (Bt (a 1) fr n) p) (nI p) w op 0 fl) (st' := [.int (if sg (Bt (a 1) fr n) p = (-18) then 1 else 0)]) GX11_isSign kX11_term4_8 rfl ⟨_, _, rfl, rfl, .inl ⟨_, _, _, _, rfl, rfl⟩⟩ (Nat.le_of_ble_eq_true rfl) (Nat.le_of_ble_eq_true rfl) (e_isSign_ok hw (c := 42) (code := (-18)) (by decide +kernel)) (Nat.le_of_ble_eq_true rfl) rfl (Nat.le_of_ble_eq_true rfl) rfl ?_
    refine P0.b GX11_term4 1 (ob := []) (cf' := (if (if sg (Bt (a 1) fr n) p = (-18) then 1 else 0) = 0 then 28 else 14, [some (.ref 0), some (.int x)], [], hT g a (nI fr) (nI n) (nI (en (Bt (a 1) fr n) p)) (kd (Bt (a 1) fr n) p) (nI p) w op 0 fl)) rfl trivial ?_
    refine P0.ifB (fun h1 => ?_) (fun h1 => ?_)
    · refine P0.b GX11_term4 1 (ob := []) (cf' := (29, [some (.ref 0), some (.int x)], [.int x], hT g a (nI fr) (nI n) (nI (en (Bt (a 1) fr n) p)) (kd (Bt (a 1) fr n) p) (nI p) w op 0 fl)) rfl trivial ?_
      exact P0.ri (by decide +kernel) rfl rfl (QP.yes (pch_stop (show jTerm (sg (Bt (a 1) fr n) p) = false from by simp only [jTerm]; exact decide_eq_false h1)) hw hp)
    · refine P0.b GX11_term4 1 (ob := []) (cf' := (15, [some (.ref 0), some (.int x)], [.ref 0], hT g a (nI fr) (nI n) (nI (en (Bt (a 1) fr n) p)) (kd (Bt (a 1) fr n) p) (nI p) w op 0 fl)) rfl trivial ?_
      refine P0.cs (as := [.ref 0]) (rest := []) GX11_nextToken kX11_term4_15 rfl ⟨_, _, rfl, rfl, .inl ⟨_, _, _, _, rfl, rfl⟩⟩ (Nat.le_of_ble_eq_true rfl) (Nat.le_of_ble_eq_true rfl) (P0.mono (e_X11_nextToken hT0 (en (Bt (a 1) fr n) p) (en_le hp) _ _ _ _ _ _) (Nat.le_of_ble_eq_true rfl) (Nat.zero_le _) (Nat.zero_le _) (fun _ _ q => q)) (Nat.le_of_ble_eq_true rfl) (fun _ _ q => q.len) ?_
      rintro _ _ ⟨w28, rfl, rfl, hw28⟩
      have hp28 := nx_le (f := a 1) (fr := fr) hp
      show P0 _ _ _ _ (18, [some (.ref 0), some (.int x)], [], hT g a (nI fr) (nI n) (nI (en (Bt (a 1) fr n) (nx (Bt (a 1) fr n) p))) (kd (Bt (a 1) fr n) (nx (Bt (a 1) fr n) p)) (nI (nx (Bt (a 1) fr n) p)) w28 op 0 fl) _
      refine P0.b GX11_term4 2 (ob := []) (cf' := (20, [some (.ref 0), some (.int x)], [.ref 0, .int x], hT g a (nI fr) (nI n) (nI (en (Bt (a 1) fr n) (nx (Bt (a 1) fr n) p))) (kd (Bt (a 1) fr n) (nx (Bt (a 1) fr n) p)) (nI (nx (Bt (a 1) fr n) p)) w28 op 0 fl)) rfl trivial ?_
      refine P0.cs (as := [.ref 0]) (rest := [.int x]) GX11_atom4 kX11_term4_20 rfl ⟨_, _, rfl, rfl, .inl ⟨_, _, _, _, rfl, rfl⟩⟩ (Nat.le_of_ble_eq_true rfl) (Nat.le_of_ble_eq_true rfl) (P0.mono (e_X11_atom4 hT0 hw28 hp28 (op := op) hop) (Nat.le_of_ble_eq_true rfl) (Nat.zero_le _) (Nat.zero_le _) (fun _ _ q => q)) (Nat.le_of_ble_eq_true rfl) (fun _ _ q => q.len) ?_
      rintro r1029 h1029 hq29
      have hq29 : QP g a fr n op (pone (sg (Bt (a 1) fr n)) (nx (Bt (a 1) fr n)) (vA g) true (lvl (sg (Bt (a 1) fr n)) (nx (Bt (a 1) fr n)) (vA g) 0 0) (lvl (sg (Bt (a 1) fr n)) (nx (Bt (a 1) fr n)) (vA g) 0 2) (nx (Bt (a 1) fr n) p)) r1029 h1029 := hq29
      rcases hR29 : pone (sg (Bt (a 1) fr n)) (nx (Bt (a 1) fr n)) (vA g) true (lvl (sg (Bt (a 1) fr n)) (nx (Bt (a 1) fr n)) (vA g) 0 0) (lvl (sg (Bt (a 1) fr n)) (nx (Bt (a 1) fr n)) (vA g) 0 2) (nx (Bt (a 1) fr n) p) with q29 | ⟨x29, p29⟩
      · rw [hR29] at hq29
        obtain ⟨v29, e29, tk29, pp29, w29, op29, rfl, rfl⟩ := hq29
        show P0 _ _ _ _ (23, [some (.ref 0), some (.int x)], [.int v29, .int x], hT g a (nI fr) (nI n) e29 tk29 pp29 w29 op29 1 (nI q29)) _
        refine P0.b GX11_term4 3 (ob := []) (cf' := (5, [some (.ref 0), some (.int (x * v29))], [], hT g a (nI fr) (nI n) e29 tk29 pp29 w29 op29 1 (nI q29))) rfl trivial ?_
        refine P0.b GX11_term4 2 (ob := []) (cf' := (8, [some (.ref 0), some (.int (x * v29))], [.int 42, .ref 0], hT g a (nI fr) (nI n) e29 tk29 pp29 w29 op29 1 (nI q29))) rfl trivial ?_
        refine P0.cd (d0 := 0) (as := [.ref 0, .int 42]) (rest := []) (r1 := some (.int 0)) (h1 := hT g a (nI fr) (nI n) e29 tk29 pp29 w29 op29 1 (nI q29)) (st' := [.int 0]) GX11_isSign kX11_term4_8 rfl ⟨_, _, rfl, rfl, .inl ⟨_, _, _, _, rfl, rfl⟩⟩ (Nat.le_of_ble_eq_true rfl) (Nat.le_of_ble_eq_true rfl) (e_isSign_bad (c := 42)) (Nat.le_of_ble_eq_true rfl) rfl (Nat.le_of_ble_eq_true rfl) rfl ?_
        refine P0.b GX11_term4 2 (ob := []) (cf' := (29, [some (.ref 0), some (.int (x * v29))], [.int (x * v29)], hT g a (nI fr) (nI n) e29 tk29 pp29 w29 op29 1 (nI q29))) rfl trivial ?_
        exact P0.ri (by decide +kernel) rfl rfl (QP.no (pch_fail (show jTerm (sg (Bt (a 1) fr n) p) = true from by rw [h1]; decide) hR29) (x * v29) e29 tk29 pp29 w29 op29)
      · rw [hR29] at hq29
        obtain ⟨w29, fl29, rfl, rfl, hw29, hp29⟩ := hq29
        show P0 _ _ _ _ (23, [some (.ref 0), some (.int x)], [.int x29, .int x], hT g a (nI fr) (nI n) (nI (en (Bt (a 1) fr n) p29)) (kd (Bt (a 1) fr n) p29) (nI p29) w29 op 0 fl29) _
        refine P0.b GX11_term4 3 (ob := []) (cf' := (5, [some (.ref 0), some (.int (x * x29))], [], hT g a (nI fr) (nI n) (nI (en (Bt (a 1) fr n) p29)) (kd (Bt (a 1) fr n) p29) (nI p29) w29 op 0 fl29)) rfl trivial ?_
        rw [pch_step (show jTerm (sg (Bt (a 1) fr n) p) = true from by rw [h1]; decide) hR29, show (vA g).2.2 (sg (Bt (a 1) fr n) p) x x29 = (x * x29) from by rw [h1]; rfl]
        exact lp_X11_term4 hT0 hop f _ _ _ _ hw29 hp29 (by have h1 := nx_lt (B := (Bt (a 1) fr n)) (p := p) (by rw [h1]; decide) (by rw [h1]; decide); have h2 := (prog_one nx_lt (prog_lvl nx_lt (vA g) 0 0) (prog_lvl nx_lt (vA g) 0 2)) _ _ _ hR29; omega)
set_option maxHeartbeats 2000000 in
theorem e_X11_term4 {g : Nat → Int32} {a : Nat → Nat → Int32} {fr n : Nat} (hT0 : TxOK a fr n) {p : Nat} {w : Int64} {fl : Int32} (hw : wOK (Bt (a 1) fr n) p w) (hp : p ≤ n) {op : Int32} (hop : op = 4) : P0 11 0 0 mX11_term4 (0, ent 2 [.ref 0], [], hT g a (nI fr) (nI n) (nI (en (Bt (a 1) fr n) p)) (kd (Bt (a 1) fr n) p) (nI p) w op 0 fl) (QP g a fr n op (pterm (sg (Bt (a 1) fr n)) (nx (Bt (a 1) fr n)) (vA g) true (lvl (sg (Bt (a 1) fr n)) (nx (Bt (a 1) fr n)) (vA g) 0 0) (lvl (sg (Bt (a 1) fr n)) (nx (Bt (a 1) fr n)) (vA g) 0 2) p)) := by
  show P0 _ _ _ _ _ (QP g a fr n op (pc0 (sg (Bt (a 1) fr n)) (nx (Bt (a 1) fr n)) (vA g).2.2 jTerm (pone (sg (Bt (a 1) fr n)) (nx (Bt (a 1) fr n)) (vA g) true (lvl (sg (Bt (a 1) fr n)) (nx (Bt (a 1) fr n)) (vA g) 0 0) (lvl (sg (Bt (a 1) fr n)) (nx (Bt (a 1) fr n)) (vA g) 0 2)) p))
  refine P0.b GX11_term4 1 (ob := []) (cf' := (1, [some (.ref 0), none], [.ref 0], hT g a (nI fr) (nI n) (nI (en (Bt (a 1) fr n) p)) (kd (Bt (a 1) fr n) p) (nI p) w op 0 fl)) rfl trivial ?_
  refine P0.cs (as := [.ref 0]) (rest := []) GX11_atom4 kX11_term4_1 rfl ⟨_, _, rfl, rfl, .inl ⟨_, _, _, _, rfl, rfl⟩⟩ (Nat.le_of_ble_eq_true rfl) (Nat.le_of_ble_eq_true rfl) (P0.mono (e_X11_atom4 hT0 hw hp (op := op) hop) (Nat.le_of_ble_eq_true rfl) (Nat.zero_le _) (Nat.zero_le _) (fun _ _ q => q)) (Nat.le_of_ble_eq_true rfl) (fun _ _ q => q.len) ?_
  rintro r1030 h1030 hq30
  have hq30 : QP g a fr n op (pone (sg (Bt (a 1) fr n)) (nx (Bt (a 1) fr n)) (vA g) true (lvl (sg (Bt (a 1) fr n)) (nx (Bt (a 1) fr n)) (vA g) 0 0) (lvl (sg (Bt (a 1) fr n)) (nx (Bt (a 1) fr n)) (vA g) 0 2) p) r1030 h1030 := hq30
  rcases hR30 : pone (sg (Bt (a 1) fr n)) (nx (Bt (a 1) fr n)) (vA g) true (lvl (sg (Bt (a 1) fr n)) (nx (Bt (a 1) fr n)) (vA g) 0 0) (lvl (sg (Bt (a 1) fr n)) (nx (Bt (a 1) fr n)) (vA g) 0 2) p with q30 | ⟨x30, p30⟩
  · rw [hR30] at hq30
    obtain ⟨v30, e30, tk30, pp30, w30, op30, rfl, rfl⟩ := hq30
    show P0 _ _ _ _ (4, [some (.ref 0), none], [.int v30], hT g a (nI fr) (nI n) e30 tk30 pp30 w30 op30 1 (nI q30)) _
    refine P0.b GX11_term4 1 (ob := []) (cf' := (5, [some (.ref 0), some (.int v30)], [], hT g a (nI fr) (nI n) e30 tk30 pp30 w30 op30 1 (nI q30))) rfl trivial ?_
    refine P0.b GX11_term4 2 (ob := []) (cf' := (8, [some (.ref 0), some (.int v30)], [.int 42, .ref 0], hT g a (nI fr) (nI n) e30 tk30 pp30 w30 op30 1 (nI q30))) rfl trivial ?_
    refine P0.cd (d0 := 0) (as := [.ref 0, .int 42]) (rest := []) (r1 := some (.int 0)) (h1 := hT g a (nI fr) (nI n) e30 tk30 pp30 w30 op30 1 (nI q30)) (st' := [.int 0]) GX11_isSign kX11_term4_8 rfl ⟨_, _, rfl, rfl, .inl ⟨_, _, _, _, rfl, rfl⟩⟩ (Nat.le_of_ble_eq_true rfl) (Nat.le_of_ble_eq_true rfl) (e_isSign_bad (c := 42)) (Nat.le_of_ble_eq_true rfl) rfl (Nat.le_of_ble_eq_true rfl) rfl ?_
    refine P0.b GX11_term4 2 (ob := []) (cf' := (29, [some (.ref 0), some (.int v30)], [.int v30], hT g a (nI fr) (nI n) e30 tk30 pp30 w30 op30 1 (nI q30))) rfl trivial ?_
    exact P0.ri (by decide +kernel) rfl rfl (QP.no (pc0_no hR30) v30 e30 tk30 pp30 w30 op30)
  · rw [hR30] at hq30
    obtain ⟨w30, fl30, rfl, rfl, hw30, hp30⟩ := hq30
    show P0 _ _ _ _ (4, [some (.ref 0), none], [.int x30], hT g a (nI fr) (nI n) (nI (en (Bt (a 1) fr n) p30)) (kd (Bt (a 1) fr n) p30) (nI p30) w30 op 0 fl30) _
    refine P0.b GX11_term4 1 (ob := []) (cf' := (5, [some (.ref 0), some (.int x30)], [], hT g a (nI fr) (nI n) (nI (en (Bt (a 1) fr n) p30)) (kd (Bt (a 1) fr n) p30) (nI p30) w30 op 0 fl30)) rfl trivial ?_
    rw [pc0_yes hR30]
    exact lp_X11_term4 hT0 hop 200 _ _ _ _ hw30 hp30 (by have := hT0.2.1; omega)
set_option maxHeartbeats 2000000 in
theorem lp_X11_added4 {g : Nat → Int32} {a : Nat → Nat → Int32} {fr n : Nat} (hT0 : TxOK a fr n) {op : Int32} (hop : op = 4) : ∀ (f : Nat) (x : Int32) (p : Nat) (w : Int64) (fl : Int32), wOK (Bt (a 1) fr n) p w → p ≤ n → n ≤ p + f → P0 12 0 0 mX11_added4 (5, [some (.ref 0), some (.int x), none, none], [], hT g a (nI fr) (nI n) (nI (en (Bt (a 1) fr n) p)) (kd (Bt (a 1) fr n) p) (nI p) w op 0 fl) (QP g a fr n op (pch (sg (Bt (a 1) fr n)) (nx (Bt (a 1) fr n)) (vA g).2.2 jSum (pterm (sg (Bt (a 1) fr n)) (nx (Bt (a 1) fr n)) (vA g) true (lvl (sg (Bt (a 1) fr n)) (nx (Bt (a 1) fr n)) (vA g) 0 0) (lvl (sg (Bt (a 1) fr n)) (nx (Bt (a 1) fr n)) (vA g) 0 2)) f x p))
  | 0, x, p, w, fl, hw, hp, hpf => by
    refine P0.b GX11_added4 2 (ob := []) (cf' := (8, [some (.ref 0), some (.int x), none, none], [.int 43, .ref 0], hT g a (nI fr) (nI n) (nI (en (Bt (a 1) fr n) p)) (kd (Bt (a 1) fr n) p) (nI p) w op 0 fl)) rfl trivial ?_
    refine P0.cd (d0 := 0) (as := [.ref 0, .int 43]) (rest := []) (r1 := some (.int (if sg (Bt (a 1) fr n) p = (-16) then 1 else 0))) (h1 := hT g a (nI fr) (nI n) (nI (en (Bt (a 1) fr n) p)) (kd (Bt (a 1) fr n) p) (nI p) w op 0 fl) (st' := [.int (if sg (Bt (a 1) fr n) p = (-16) then 1 else 0)]) GX11_isSign kX11_added4_8 rfl ⟨_, _, rfl, rfl, .inl ⟨_, _, _, _, rfl, rfl⟩⟩ (Nat.le_of_ble_eq_true rfl) (Nat.le_of_ble_eq_true rfl) (e_isSign_ok hw (c := 43) (code := (-16)) (by decide +kernel)) (Nat.le_of_ble_eq_true rfl) rfl (Nat.le_of_ble_eq_true rfl) rfl ?_
    refine P0.b GX11_added4 1 (ob := []) (cf' := (if (if sg (Bt (a 1) fr n) p = (-16) then 1 else 0) = 0 then 14 else 23, [some (.ref 0), some (.int x), none, none], [], hT g a (nI fr) (nI n) (nI (en (Bt (a 1) fr n) p)) (kd (Bt (a 1) fr n) p) (nI p) w op 0 fl)) rfl trivial ?_
    rw [if_neg (show ¬ (sg (Bt (a 1) fr n) p = (-16)) from by rw [sg_end hpf]; decide), if_pos rfl]
    refine P0.b GX11_added4 2 (ob := []) (cf' := (17, [some (.ref 0), some (.int x), none, none], [.int 45, .ref 0], hT g a (nI fr) (nI n) (nI (en (Bt (a 1) fr n) p)) (kd (Bt (a 1) fr n) p) (nI p) w op 0 fl)) rfl trivial ?_
    refine P0.cd (d0 := 0) (as := [.ref 0, .int 45]) (rest := []) (r1 := some (.int (if sg (Bt (a 1) fr n) p = (-17) then 1 else 0))) (h1 := hT g a (nI fr) (nI n) (nI (en (Bt (a 1) fr n) p)) (kd (Bt (a 1) fr n) p) (nI p) w op 0 fl) (st' := [.int (if sg (Bt (a 1) fr n) p = (-17) then 1 else 0)]) GX11_isSign kX11_added4_17 rfl ⟨_, _, rfl, rfl, .inl ⟨_, _, _, _, rfl, rfl⟩⟩ (Nat.le_of_ble_eq_true rfl) (Nat.le_of_ble_eq_true rfl) (e_isSign_ok hw (c := 45) (code := (-17)) (by decide +kernel)) (Nat.le_of_ble_eq_true rfl) rfl (Nat.le_of_ble_eq_true rfl) rfl ?_
    refine P0.b GX11_added4 1 (ob := []) (cf' := (if (if sg (Bt (a 1) fr n) p = (-17) then 1 else 0) = 0 then 66 else 23, [some (.ref 0), some (.int x), none, none], [], hT g a (nI fr) (nI n) (nI (en (Bt (a 1) fr n) p)) (kd (Bt (a 1) fr n) p) (nI p) w op 0 fl)) rfl trivial ?_
    rw [if_neg (show ¬ (sg (Bt (a 1) fr n) p = (-17)) from by rw [sg_end hpf]; decide), if_pos rfl]
    refine P0.b GX11_added4 1 (ob := []) (cf' := (67, [some (.ref 0), some (.int x), none, none], [.int x], hT g a (nI fr) (nI n) (nI (en (Bt (a 1) fr n) p)) (kd (Bt (a 1) fr n) p) (nI p) w op 0 fl)) rfl trivial ?_
    exact P0.ri (by decide +kernel) rfl rfl (QP.yes rfl hw hp)
  | f + 1, x, p, w, fl, hw, hp, hpf => by
    refine P0.b GX11_added4 2 (ob := []) (cf' := (8, [some (.ref 0), some (.int x), none, none], [.int 43, .ref 0], hT g a (nI fr) (nI n) (nI (en (Bt (a 1) fr n) p)) (kd (Bt (a 1) fr n) p) (nI p) w op 0 fl)) rfl trivial ?_
    refine P0.cd (d0 := 0) (as := [.ref 0, .int 43]) (rest := []) (r1 := some (.int (if sg (Bt (a 1) fr n) p = (-16) then 1 else 0))) (h1 := hT g a (nI fr) (nI n) (nI (en (Bt (a 1) fr n) p)) (kd (Bt (a 1) fr n) p) (nI p) w op 0 fl) (st' := [.int (if sg (Bt (a 1) fr n) p = (-16) then 1 else 0)]) GX11_isSign kX11_added4_8 rfl ⟨_, _, rfl, rfl, .inl ⟨_, _, _, _, rfl, rfl⟩⟩ (Nat.le_of_ble_eq_true rfl) (Nat.le_of_ble_eq_true rfl) (e_isSign_ok hw (c := 43) (code := (-16)) (by decide +kernel)) (Nat.le_of_ble_eq_true rfl) rfl (Nat.le_of_ble_eq_true rfl) rfl ?_
    refine P0.b GX11_added4 1 (ob := []) (cf' := (if (if sg (Bt (a 1) fr n) p = (-16) then 1 else 0) = 0 then 14 else 23, [some (.ref 0), some (.int x), none, none], [], hT g a (nI fr) (nI n) (nI (en (Bt (a 1) fr n) p)) (kd (Bt (a 1) fr n) p) (nI p) w op 0 fl)) rfl trivial ?_
    refine P0.ifB (fun h1 => ?_) (fun h1 => ?_)
    · refine P0.b GX11_added4 2 (ob := []) (cf' := (17, [some (.ref 0), some (.int x), none, none], [.int 45, .ref 0], hT g a (nI fr) (nI n) (nI (en (Bt (a 1) fr n) p)) (kd (Bt (a 1) fr n) p) (nI p) w op 0 fl)) rfl trivial ?_
      refine P0.cd (d0 := 0) (as := [.ref 0, .int 45]) (rest := []) (r1 := some (.int (if sg (Bt (a 1) fr n) p = (-17) then 1 else 0))) (h1 := hT g a (nI fr) (nI n) (nI (en (Bt (a 1) fr n) p)) (kd (Bt (a 1) fr n) p) (nI p) w op 0 fl) (st' := [.int (if sg (Bt (a 1) fr n) p = (-17) then 1 else 0)]) GX11_isSign kX11_added4_17 rfl ⟨_, _, rfl, rfl, .inl ⟨_, _, _, _, rfl, rfl⟩⟩ (Nat.le_of_ble_eq_true rfl) (Nat.le_of_ble_eq_true rfl) (e_isSign_ok hw (c := 45) (code := (-17)) (by decide +kernel)) (Nat.le_of_ble_eq_true rfl) rfl (Nat.le_of_ble_eq_true rfl) rfl ?_
      refine P0.b GX11_added4 1 (ob := []) (cf' := (if (if sg (Bt (a 1) fr n) p = (-17) then 1 else 0) = 0 then 66 else 23, [some (.ref 0), some (.int x), none, none], [], hT g a (nI fr) (nI n) (nI (en (Bt (a 1) fr n) p)) (kd (Bt (a 1) fr n) p) (nI p) w op 0 fl)) rfl trivial ?_
      refine P0.ifB (fun h2 => ?_) (fun h2 => ?_)
      · refine P0.b GX11_added4 1 (ob := []) (cf' := (67, [some (.ref 0), some (.int x), none, none], [.int x], hT g a (nI fr) (nI n) (nI (en (Bt (a 1) fr n) p)) (kd (Bt (a 1) fr n) p) (nI p) w op 0 fl)) rfl trivial ?_
        exact P0.ri (by decide +kernel) rfl rfl (QP.yes (pch_stop (show jSum (sg (Bt (a 1) fr n) p) = false from by simp only [jSum]; exact decide_eq_false (fun z => z.elim h1 h2))) hw hp)
      · refine P0.b GX11_added4 5 (ob := []) (cf' := (if lg_cmp w 43 = 0 then 34 else 38, [some (.ref 0), some (.int x), none, none], [], hT g a (nI fr) (nI n) (nI (en (Bt (a 1) fr n) p)) (kd (Bt (a 1) fr n) p) (nI p) w op 0 fl)) rfl trivial ?_
        rw [if_neg (show ¬ (lg_cmp w 43 = 0) from by rw [sB_of (c := 45) (code := -17) (by decide +kernel) h2 hw]; decide)]
        refine P0.b GX11_added4 3 (ob := []) (cf' := (41, [some (.ref 0), some (.int x), some (.int 0), none], [.ref 0], hT g a (nI fr) (nI n) (nI (en (Bt (a 1) fr n) p)) (kd (Bt (a 1) fr n) p) (nI p) w op 0 fl)) rfl trivial ?_
        refine P0.cs (as := [.ref 0]) (rest := []) GX11_nextToken kX11_added4_41 rfl ⟨_, _, rfl, rfl, .inl ⟨_, _, _, _, rfl, rfl⟩⟩ (Nat.le_of_ble_eq_true rfl) (Nat.le_of_ble_eq_true rfl) (P0.mono (e_X11_nextToken hT0 (en (Bt (a 1) fr n) p) (en_le hp) _ _ _ _ _ _) (Nat.le_of_ble_eq_true rfl) (Nat.zero_le _) (Nat.zero_le _) (fun _ _ q => q)) (Nat.le_of_ble_eq_true rfl) (fun _ _ q => q.len) ?_
        rintro _ _ ⟨w31, rfl, rfl, hw31⟩
        have hp31 := nx_le (f := a 1) (fr := fr) hp
        show P0 _ _ _ _ (44, [some (.ref 0), some (.int x), some (.int 0), none], [], hT g a (nI fr) (nI n) (nI (en (Bt (a 1) fr n) (nx (Bt (a 1) fr n) p))) (kd (Bt (a 1) fr n) (nx (Bt (a 1) fr n) p)) (nI (nx (Bt (a 1) fr n) p)) w31 op 0 fl) _
        refine P0.b GX11_added4 1 (ob := []) (cf' := (45, [some (.ref 0), some (.int x), some (.int 0), none], [.ref 0], hT g a (nI fr) (nI n) (nI (en (Bt (a 1) fr n) (nx (Bt (a 1) fr n) p))) (kd (Bt (a 1) fr n) (nx (Bt (a 1) fr n) p)) (nI (nx (Bt (a 1) fr n) p)) w31 op 0 fl)) rfl trivial ?_
        refine P0.cs (as := [.ref 0]) (rest := []) GX11_term4 kX11_added4_45 rfl ⟨_, _, rfl, rfl, .inl ⟨_, _, _, _, rfl, rfl⟩⟩ (Nat.le_of_ble_eq_true rfl) (Nat.le_of_ble_eq_true rfl) (P0.mono (e_X11_term4 hT0 hw31 hp31 (op := op) hop) (Nat.le_of_ble_eq_true rfl) (Nat.zero_le _) (Nat.zero_le _) (fun _ _ q => q)) (Nat.le_of_ble_eq_true rfl) (fun _ _ q => q.len) ?_
        rintro r1032 h1032 hq32
        have hq32 : QP g a fr n op (pterm (sg (Bt (a 1) fr n)) (nx (Bt (a 1) fr n)) (vA g) true (lvl (sg (Bt (a 1) fr n)) (nx (Bt (a 1) fr n)) (vA g) 0 0) (lvl (sg (Bt (a 1) fr n)) (nx (Bt (a 1) fr n)) (vA g) 0 2) (nx (Bt (a 1) fr n) p)) r1032 h1032 := hq32
        rcases hR32 : pterm (sg (Bt (a 1) fr n)) (nx (Bt (a 1) fr n)) (vA g) true (lvl (sg (Bt (a 1) fr n)) (nx (Bt (a 1) fr n)) (vA g) 0 0) (lvl (sg (Bt (a 1) fr n)) (nx (Bt (a 1) fr n)) (vA g) 0 2) (nx (Bt (a 1) fr n) p) with q32 | ⟨x32, p32⟩
        · rw [hR32] at hq32
          obtain ⟨v32, e32, tk32, pp32, w32, op32, rfl, rfl⟩ := hq32
          show P0 _ _ _ _ (48, [some (.ref 0), some (.int x), some (.int 0), none], [.int v32], hT g a (nI fr) (nI n) e32 tk32 pp32 w32 op32 1 (nI q32)) _
          refine P0.b GX11_added4 8 (ob := []) (cf' := (5, [some (.ref 0), some (.int (x - v32)), some (.int 0), some (.int v32)], [], hT g a (nI fr) (nI n) e32 tk32 pp32 w32 op32 1 (nI q32))) rfl trivial ?_
          refine P0.b GX11_added4 2 (ob := []) (cf' := (8, [some (.ref 0), some (.int (x - v32)), some (.int 0), some (.int v32)], [.int 43, .ref 0], hT g a (nI fr) (nI n) e32 tk32 pp32 w32 op32 1 (nI q32))) rfl trivial ?_
          refine P0.cd (d0 := 0) (as := [.ref 0, .int 43]) (rest := []) (r1 := some (.int 0)) (h1 := hT g a (nI fr) (nI n) e32 tk32 pp32 w32 op32 1 (nI q32)) (st' := [.int 0]) GX11_isSign kX11_added4_8 rfl ⟨_, _, rfl, rfl, .inl ⟨_, _, _, _, rfl, rfl⟩⟩ (Nat.le_of_ble_eq_true rfl) (Nat.le_of_ble_eq_true rfl) (e_isSign_bad (c := 43)) (Nat.le_of_ble_eq_true rfl) rfl (Nat.le_of_ble_eq_true rfl) rfl ?_
          refine P0.b GX11_added4 3 (ob := []) (cf' := (17, [some (.ref 0), some (.int (x - v32)), some (.int 0), some (.int v32)], [.int 45, .ref 0], hT g a (nI fr) (nI n) e32 tk32 pp32 w32 op32 1 (nI q32))) rfl trivial ?_
          refine P0.cd (d0 := 0) (as := [.ref 0, .int 45]) (rest := []) (r1 := some (.int 0)) (h1 := hT g a (nI fr) (nI n) e32 tk32 pp32 w32 op32 1 (nI q32)) (st' := [.int 0]) GX11_isSign kX11_added4_17 rfl ⟨_, _, rfl, rfl, .inl ⟨_, _, _, _, rfl, rfl⟩⟩ (Nat.le_of_ble_eq_true rfl) (Nat.le_of_ble_eq_true rfl) (e_isSign_bad (c := 45)) (Nat.le_of_ble_eq_true rfl) rfl (Nat.le_of_ble_eq_true rfl) rfl ?_
          refine P0.b GX11_added4 2 (ob := []) (cf' := (67, [some (.ref 0), some (.int (x - v32)), some (.int 0), some (.int v32)], [.int (x - v32)], hT g a (nI fr) (nI n) e32 tk32 pp32 w32 op32 1 (nI q32))) rfl trivial ?_
          exact P0.ri (by decide +kernel) rfl rfl (QP.no (pch_fail (show jSum (sg (Bt (a 1) fr n) p) = true from by rw [h2]; decide) hR32) (x - v32) e32 tk32 pp32 w32 op32)
        · rw [hR32] at hq32
          obtain ⟨w32, fl32, rfl, rfl, hw32, hp32⟩ := hq32
          show P0 _ _ _ _ (48, [some (.ref 0), some (.int x), some (.int 0), none], [.int x32], hT g a (nI fr) (nI n) (nI (en (Bt (a 1) fr n) p32)) (kd (Bt (a 1) fr n) p32) (nI p32) w32 op 0 fl32) _
          refine P0.b GX11_added4 8 (ob := []) (cf' := (5, [some (.ref 0), some (.int (x - x32)), some (.int 0), some (.int x32)], [], hT g a (nI fr) (nI n) (nI (en (Bt (a 1) fr n) p32)) (kd (Bt (a 1) fr n) p32) (nI p32) w32 op 0 fl32)) rfl trivial ?_
          rw [pch_step (show jSum (sg (Bt (a 1) fr n) p) = true from by rw [h2]; decide) hR32, show (vA g).2.2 (sg (Bt (a 1) fr n) p) x x32 = (x - x32) from by rw [h2]; rfl]
          refine P0.forget (ls' := [some (.ref 0), some (.int (x - x32)), none, none]) ⟨.inr rfl, .inr rfl, .inl rfl, .inl rfl, trivial⟩ ?_
          exact lp_X11_added4 hT0 hop f _ _ _ _ hw32 hp32 (by have h1 := nx_lt (B := (Bt (a 1) fr n)) (p := p) (by rw [h2]; decide) (by rw [h2]; decide); have h2 := (prog_c0 nx_lt jT_ok (prog_one nx_lt (prog_lvl nx_lt (vA g) 0 0) (prog_lvl nx_lt (vA g) 0 2))) _ _ _ hR32; omega)
    · refine P0.b GX11_added4 5 (ob := []) (cf' := (if lg_cmp w 43 = 0 then 34 else 38, [some (.ref 0), some (.int x), none, none], [], hT g a (nI fr) (nI n) (nI (en (Bt (a 1) fr n) p)) (kd (Bt (a 1) fr n) p) (nI p) w op 0 fl)) rfl trivial ?_
      rw [if_pos (show lg_cmp w 43 = 0 from (lgc_eq _ _).mpr (sB_of (c := 43) (code := -16) (by decide +kernel) h1 hw))]
      refine P0.b GX11_added4 4 (ob := []) (cf' := (41, [some (.ref 0), some (.int x), some (.int 1), none], [.ref 0], hT g a (nI fr) (nI n) (nI (en (Bt (a 1) fr n) p)) (kd (Bt (a 1) fr n) p) (nI p) w op 0 fl)) rfl trivial ?_
      refine P0.cs (as := [.ref 0]) (rest := []) GX11_nextToken kX11_added4_41 rfl ⟨_, _, rfl, rfl, .inl ⟨_, _, _, _, rfl, rfl⟩⟩ (Nat.le_of_ble_eq_true rfl) (Nat.le_of_ble_eq_true rfl) (P0.mono (e_X11_nextToken hT0 (en (Bt (a 1) fr n) p) (en_le hp) _ _ _ _ _ _) (Nat.le_of_ble_eq_true rfl) (Nat.zero_le _) (Nat.zero_le _) (fun _ _ q => q)) (Nat.le_of_ble_eq_true rfl) (fun _ _ q => q.len) ?_
      rintro _ _ ⟨w33, rfl, rfl, hw33⟩
      have hp33 := nx_le (f := a 1) (fr := fr) hp
      show P0 _ _ _ _ (44, [some (.ref 0), some (.int x), some (.int 1), none], [], hT g a (nI fr) (nI n) (nI (en (Bt (a 1) fr n) (nx (Bt (a 1) fr n) p))) (kd (Bt (a 1) fr n) (nx (Bt (a 1) fr n) p)) (nI (nx (Bt (a 1) fr n) p)) w33 op 0 fl) _
      refine P0.b GX11_added4 1 (ob := []) (cf' := (45, [some (.ref 0), some (.int x), some (.int 1), none], [.ref 0], hT g a (nI fr) (nI n) (nI (en (Bt (a 1) fr n) (nx (Bt (a 1) fr n) p))) (kd (Bt (a 1) fr n) (nx (Bt (a 1) fr n) p)) (nI (nx (Bt (a 1) fr n) p)) w33 op 0 fl)) rfl trivial ?_
      refine P0.cs (as := [.ref 0]) (rest := []) GX11_term4 kX11_added4_45 rfl ⟨_, _, rfl, rfl, .inl ⟨_, _, _, _, rfl, rfl⟩⟩ (Nat.le_of_ble_eq_true rfl) (Nat.le_of_ble_eq_true rfl) (P0.mono (e_X11_term4 hT0 hw33 hp33 (op := op) hop) (Nat.le_of_ble_eq_true rfl) (Nat.zero_le _) (Nat.zero_le _) (fun _ _ q => q)) (Nat.le_of_ble_eq_true rfl) (fun _ _ q => q.len) ?_
      rintro r1034 h1034 hq34
      have hq34 : QP g a fr n op (pterm (sg (Bt (a 1) fr n)) (nx (Bt (a 1) fr n)) (vA g) true (lvl (sg (Bt (a 1) fr n)) (nx (Bt (a 1) fr n)) (vA g) 0 0) (lvl (sg (Bt (a 1) fr n)) (nx (Bt (a 1) fr n)) (vA g) 0 2) (nx (Bt (a 1) fr n) p)) r1034 h1034 := hq34
      rcases hR34 : pterm (sg (Bt (a 1) fr n)) (nx (Bt (a 1) fr n)) (vA g) true (lvl (sg (Bt (a 1) fr n)) (nx (Bt (a 1) fr n)) (vA g) 0 0) (lvl (sg (Bt (a 1) fr n)) (nx (Bt (a 1) fr n)) (vA g) 0 2) (nx (Bt (a 1) fr n) p) with q34 | ⟨x34, p34⟩
      · rw [hR34] at hq34
        obtain ⟨v34, e34, tk34, pp34, w34, op34, rfl, rfl⟩ := hq34
        show P0 _ _ _ _ (48, [some (.ref 0), some (.int x), some (.int 1), none], [.int v34], hT g a (nI fr) (nI n) e34 tk34 pp34 w34 op34 1 (nI q34)) _
        refine P0.b GX11_added4 9 (ob := []) (cf' := (5, [some (.ref 0), some (.int (x + v34)), some (.int 1), some (.int v34)], [], hT g a (nI fr) (nI n) e34 tk34 pp34 w34 op34 1 (nI q34))) rfl trivial ?_
        refine P0.b GX11_added4 2 (ob := []) (cf' := (8, [some (.ref 0), some (.int (x + v34)), some (.int 1), some (.int v34)], [.int 43, .ref 0], hT g a (nI fr) (nI n) e34 tk34 pp34 w34 op34 1 (nI q34))) rfl trivial ?_
        refine P0.cd (d0 := 0) (as := [.ref 0, .int 43]) (rest := []) (r1 := some (.int 0)) (h1 := hT g a (nI fr) (nI n) e34 tk34 pp34 w34 op34 1 (nI q34)) (st' := [.int 0]) GX11_isSign kX11_added4_8 rfl ⟨_, _, rfl, rfl, .inl ⟨_, _, _, _, rfl, rfl⟩⟩ (Nat.le_of_ble_eq_true rfl) (Nat.le_of_ble_eq_true rfl) (e_isSign_bad (c := 43)) (Nat.le_of_ble_eq_true rfl) rfl (Nat.le_of_ble_eq_true rfl) rfl ?_
        refine P0.b GX11_added4 3 (ob := []) (cf' := (17, [some (.ref 0), some (.int (x + v34)), some (.int 1), some (.int v34)], [.int 45, .ref 0], hT g a (nI fr) (nI n) e34 tk34 pp34 w34 op34 1 (nI q34))) rfl trivial ?_
        refine P0.cd (d0 := 0) (as := [.ref 0, .int 45]) (rest := []) (r1 := some (.int 0)) (h1 := hT g a (nI fr) (nI n) e34 tk34 pp34 w34 op34 1 (nI q34)) (st' := [.int 0]) GX11_isSign kX11_added4_17 rfl ⟨_, _, rfl, rfl, .inl ⟨_, _, _, _, rfl, rfl⟩⟩ (Nat.le_of_ble_eq_true rfl) (Nat.le_of_ble_eq_true rfl) (e_isSign_bad (c := 45)) (Nat.le_of_ble_eq_true rfl) rfl (Nat.le_of_ble_eq_true rfl) rfl ?_
        refine P0.b GX11_added4 2 (ob := []) (cf' := (67, [some (.ref 0), some (.int (x + v34)), some (.int 1), some (.int v34)], [.int (x + v34)], hT g a (nI fr) (nI n) e34 tk34 pp34 w34 op34 1 (nI q34))) rfl trivial ?_
        exact P0.ri (by decide +kernel) rfl rfl (QP.no (pch_fail (show jSum (sg (Bt (a 1) fr n) p) = true from by rw [h1]; decide) hR34) (x + v34) e34 tk34 pp34 w34 op34)
      · rw [hR34] at hq34
        obtain ⟨w34, fl34, rfl, rfl, hw34, hp34⟩ := hq34
        show P0 _ _ _ _ (48, [some (.ref 0), some (.int x), some (.int 1), none], [.int x34], hT g a (nI fr) (nI n) (nI (en (Bt (a 1) fr n) p34)) (kd (Bt (a 1) fr n) p34) (nI p34) w34 op 0 fl34) _
        refine P0.b GX11_added4 9 (ob := []) (cf' := (5, [some (.ref 0), some (.int (x + x34)), some (.int 1), some (.int x34)], [], hT g a (nI fr) (nI n) (nI (en (Bt (a 1) fr n) p34)) (kd (Bt (a 1) fr n) p34) (nI p34) w34 op 0 fl34)) rfl trivial ?_
        rw [pch_step (show jSum (sg (Bt (a 1) fr n) p) = true from by rw [h1]; decide) hR34, show (vA g).2.2 (sg (Bt (a 1) fr n) p) x x34 = (x + x34) from by rw [h1]; rfl]
        refine P0.forget (ls' := [some (.ref 0), some (.int (x + x34)), none, none]) ⟨.inr rfl, .inr rfl, .inl rfl, .inl rfl, trivial⟩ ?_
        exact lp_X11_added4 hT0 hop f _ _ _ _ hw34 hp34 (by have h1 := nx_lt (B := (Bt (a 1) fr n)) (p := p) (by rw [h1]; decide) (by rw [h1]; decide); have h2 := (prog_c0 nx_lt jT_ok (prog_one nx_lt (prog_lvl nx_lt (vA g) 0 0) (prog_lvl nx_lt (vA g) 0 2))) _ _ _ hR34; omega)
set_option maxHeartbeats 2000000 in
theorem e_X11_added4 {g : Nat → Int32} {a : Nat → Nat → Int32} {fr n : Nat} (hT0 : TxOK a fr n) {p : Nat} {w : Int64} {fl : Int32} (hw : wOK (Bt (a 1) fr n) p w) (hp : p ≤ n) {op : Int32} (hop : op = 4) : P0 12 0 0 mX11_added4 (0, ent 4 [.ref 0], [], hT g a (nI fr) (nI n) (nI (en (Bt (a 1) fr n) p)) (kd (Bt (a 1) fr n) p) (nI p) w op 0 fl) (QP g a fr n op (psum (sg (Bt (a 1) fr n)) (nx (Bt (a 1) fr n)) (vA g) true (lvl (sg (Bt (a 1) fr n)) (nx (Bt (a 1) fr n)) (vA g) 0 0) (lvl (sg (Bt (a 1) fr n)) (nx (Bt (a 1) fr n)) (vA g) 0 2) p)) := by
  show P0 _ _ _ _ _ (QP g a fr n op (pc0 (sg (Bt (a 1) fr n)) (nx (Bt (a 1) fr n)) (vA g).2.2 jSum (pterm (sg (Bt (a 1) fr n)) (nx (Bt (a 1) fr n)) (vA g) true (lvl (sg (Bt (a 1) fr n)) (nx (Bt (a 1) fr n)) (vA g) 0 0) (lvl (sg (Bt (a 1) fr n)) (nx (Bt (a 1) fr n)) (vA g) 0 2)) p))
  refine P0.b GX11_added4 1 (ob := []) (cf' := (1, [some (.ref 0), none, none, none], [.ref 0], hT g a (nI fr) (nI n) (nI (en (Bt (a 1) fr n) p)) (kd (Bt (a 1) fr n) p) (nI p) w op 0 fl)) rfl trivial ?_
  refine P0.cs (as := [.ref 0]) (rest := []) GX11_term4 kX11_added4_1 rfl ⟨_, _, rfl, rfl, .inl ⟨_, _, _, _, rfl, rfl⟩⟩ (Nat.le_of_ble_eq_true rfl) (Nat.le_of_ble_eq_true rfl) (P0.mono (e_X11_term4 hT0 hw hp (op := op) hop) (Nat.le_of_ble_eq_true rfl) (Nat.zero_le _) (Nat.zero_le _) (fun _ _ q => q)) (Nat.le_of_ble_eq_true rfl) (fun _ _ q => q.len) ?_
  rintro r1035 h1035 hq35
  have hq35 : QP g a fr n op (pterm (sg (Bt (a 1) fr n)) (nx (Bt (a 1) fr n)) (vA g) true (lvl (sg (Bt (a 1) fr n)) (nx (Bt (a 1) fr n)) (vA g) 0 0) (lvl (sg (Bt (a 1) fr n)) (nx (Bt (a 1) fr n)) (vA g) 0 2) p) r1035 h1035 := hq35
  rcases hR35 : pterm (sg (Bt (a 1) fr n)) (nx (Bt (a 1) fr n)) (vA g) true (lvl (sg (Bt (a 1) fr n)) (nx (Bt (a 1) fr n)) (vA g) 0 0) (lvl (sg (Bt (a 1) fr n)) (nx (Bt (a 1) fr n)) (vA g) 0 2) p with q35 | ⟨x35, p35⟩
  · rw [hR35] at hq35
    obtain ⟨v35, e35, tk35, pp35, w35, op35, rfl, rfl⟩ := hq35
    show P0 _ _ _ _ (4, [some (.ref 0), none, none, none], [.int v35], hT g a (nI fr) (nI n) e35 tk35 pp35 w35 op35 1 (nI q35)) _
    refine P0.b GX11_added4 1 (ob := []) (cf' := (5, [some (.ref 0), some (.int v35), none, none], [], hT g a (nI fr) (nI n) e35 tk35 pp35 w35 op35 1 (nI q35))) rfl trivial ?_
    refine P0.b GX11_added4 2 (ob := []) (cf' := (8, [some (.ref 0), some (.int v35), none, none], [.int 43, .ref 0], hT g a (nI fr) (nI n) e35 tk35 pp35 w35 op35 1 (nI q35))) rfl trivial ?_
    refine P0.cd (d0 := 0) (as := [.ref 0, .int 43]) (rest := []) (r1 := some (.int 0)) (h1 := hT g a (nI fr) (nI n) e35 tk35 pp35 w35 op35 1 (nI q35)) (st' := [.int 0]) GX11_isSign kX11_added4_8 rfl ⟨_, _, rfl, rfl, .inl ⟨_, _, _, _, rfl, rfl⟩⟩ (Nat.le_of_ble_eq_true rfl) (Nat.le_of_ble_eq_true rfl) (e_isSign_bad (c := 43)) (Nat.le_of_ble_eq_true rfl) rfl (Nat.le_of_ble_eq_true rfl) rfl ?_
    refine P0.b GX11_added4 3 (ob := []) (cf' := (17, [some (.ref 0), some (.int v35), none, none], [.int 45, .ref 0], hT g a (nI fr) (nI n) e35 tk35 pp35 w35 op35 1 (nI q35))) rfl trivial ?_
    refine P0.cd (d0 := 0) (as := [.ref 0, .int 45]) (rest := []) (r1 := some (.int 0)) (h1 := hT g a (nI fr) (nI n) e35 tk35 pp35 w35 op35 1 (nI q35)) (st' := [.int 0]) GX11_isSign kX11_added4_17 rfl ⟨_, _, rfl, rfl, .inl ⟨_, _, _, _, rfl, rfl⟩⟩ (Nat.le_of_ble_eq_true rfl) (Nat.le_of_ble_eq_true rfl) (e_isSign_bad (c := 45)) (Nat.le_of_ble_eq_true rfl) rfl (Nat.le_of_ble_eq_true rfl) rfl ?_
    refine P0.b GX11_added4 2 (ob := []) (cf' := (67, [some (.ref 0), some (.int v35), none, none], [.int v35], hT g a (nI fr) (nI n) e35 tk35 pp35 w35 op35 1 (nI q35))) rfl trivial ?_
    exact P0.ri (by decide +kernel) rfl rfl (QP.no (pc0_no hR35) v35 e35 tk35 pp35 w35 op35)
  · rw [hR35] at hq35
    obtain ⟨w35, fl35, rfl, rfl, hw35, hp35⟩ := hq35
    show P0 _ _ _ _ (4, [some (.ref 0), none, none, none], [.int x35], hT g a (nI fr) (nI n) (nI (en (Bt (a 1) fr n) p35)) (kd (Bt (a 1) fr n) p35) (nI p35) w35 op 0 fl35) _
    refine P0.b GX11_added4 1 (ob := []) (cf' := (5, [some (.ref 0), some (.int x35), none, none], [], hT g a (nI fr) (nI n) (nI (en (Bt (a 1) fr n) p35)) (kd (Bt (a 1) fr n) p35) (nI p35) w35 op 0 fl35)) rfl trivial ?_
    rw [pc0_yes hR35]
    exact lp_X11_added4 hT0 hop 200 _ _ _ _ hw35 hp35 (by have := hT0.2.1; omega)
set_option maxHeartbeats 2000000 in
theorem e_X11_not4 {g : Nat → Int32} {a : Nat → Nat → Int32} {fr n : Nat} (hT0 : TxOK a fr n) {p : Nat} {w : Int64} {fl : Int32} (hw : wOK (Bt (a 1) fr n) p w) (hp : p ≤ n) {op : Int32} (hop : op = 4) : P0 13 0 0 mX11_not4 (0, ent 4 [.ref 0], [], hT g a (nI fr) (nI n) (nI (en (Bt (a 1) fr n) p)) (kd (Bt (a 1) fr n) p) (nI p) w op 0 fl) (QP g a fr n op (lvl (sg (Bt (a 1) fr n)) (nx (Bt (a 1) fr n)) (vA g) 1 1 p)) := by
  show P0 _ _ _ _ _ (QP g a fr n op (pnot (sg (Bt (a 1) fr n)) (nx (Bt (a 1) fr n)) (vA g) true (lvl (sg (Bt (a 1) fr n)) (nx (Bt (a 1) fr n)) (vA g) 0 0) (lvl (sg (Bt (a 1) fr n)) (nx (Bt (a 1) fr n)) (vA g) 0 1) (lvl (sg (Bt (a 1) fr n)) (nx (Bt (a 1) fr n)) (vA g) 0 2) p))
  refine P0.b GX11_not4 9 (ob := []) (cf' := (12, [some (.ref 0), none, none, none], [.int 0, .int 0, .int 0, .int 0, .int 0, .int 116, .int 111, .int 110, .ref 0], hT g a (nI fr) (nI n) (nI (en (Bt (a 1) fr n) p)) (kd (Bt (a 1) fr n) p) (nI p) w op 0 fl)) rfl trivial ?_
  refine P0.cd (d0 := 2) (as := [.ref 0, .int 110, .int 111, .int 116, .int 0, .int 0, .int 0, .int 0, .int 0]) (rest := []) (r1 := some (.int (if sg (Bt (a 1) fr n) p = (-12) then 1 else 0))) (h1 := hT g a (nI fr) (nI n) (nI (en (Bt (a 1) fr n) p)) (kd (Bt (a 1) fr n) p) (nI p) w op 0 fl) (st' := [.int (if sg (Bt (a 1) fr n) p = (-12) then 1 else 0)]) GX11_isWord kX11_not4_12 rfl ⟨_, _, rfl, rfl, .inl ⟨_, _, _, _, rfl, rfl⟩⟩ (Nat.le_of_ble_eq_true rfl) (Nat.le_of_ble_eq_true rfl) (e_isWord_ok hT0 hp (cs := [110, 111, 116]) (code := (-12)) (by decide +kernel) (by decide) (by decide)) (Nat.le_of_ble_eq_true rfl) rfl (Nat.le_of_ble_eq_true rfl) rfl ?_
  refine P0.b GX11_not4 1 (ob := []) (cf' := (if (if sg (Bt (a 1) fr n) p = (-12) then 1 else 0) = 0 then 52 else 18, [some (.ref 0), none, none, none], [], hT g a (nI fr) (nI n) (nI (en (Bt (a 1) fr n) p)) (kd (Bt (a 1) fr n) p) (nI p) w op 0 fl)) rfl trivial ?_
  refine P0.ifB (fun h1 => ?_) (fun h1 => ?_)
  · refine P0.b GX11_not4 1 (ob := []) (cf' := (53, [some (.ref 0), none, none, none], [.ref 0], hT g a (nI fr) (nI n) (nI (en (Bt (a 1) fr n) p)) (kd (Bt (a 1) fr n) p) (nI p) w op 0 fl)) rfl trivial ?_
    refine P0.cs (as := [.ref 0]) (rest := []) GX11_added4 kX11_not4_53 rfl ⟨_, _, rfl, rfl, .inl ⟨_, _, _, _, rfl, rfl⟩⟩ (Nat.le_of_ble_eq_true rfl) (Nat.le_of_ble_eq_true rfl) (P0.mono (e_X11_added4 hT0 hw hp (op := op) hop) (Nat.le_of_ble_eq_true rfl) (Nat.zero_le _) (Nat.zero_le _) (fun _ _ q => q)) (Nat.le_of_ble_eq_true rfl) (fun _ _ q => q.len) ?_
    rintro r1036 h1036 hq36
    have hq36 : QP g a fr n op (psum (sg (Bt (a 1) fr n)) (nx (Bt (a 1) fr n)) (vA g) true (lvl (sg (Bt (a 1) fr n)) (nx (Bt (a 1) fr n)) (vA g) 0 0) (lvl (sg (Bt (a 1) fr n)) (nx (Bt (a 1) fr n)) (vA g) 0 2) p) r1036 h1036 := hq36
    rcases hR36 : psum (sg (Bt (a 1) fr n)) (nx (Bt (a 1) fr n)) (vA g) true (lvl (sg (Bt (a 1) fr n)) (nx (Bt (a 1) fr n)) (vA g) 0 0) (lvl (sg (Bt (a 1) fr n)) (nx (Bt (a 1) fr n)) (vA g) 0 2) p with q36 | ⟨x36, p36⟩
    · rw [hR36] at hq36
      obtain ⟨v36, e36, tk36, pp36, w36, op36, rfl, rfl⟩ := hq36
      show P0 _ _ _ _ (56, [some (.ref 0), none, none, none], [.int v36], hT g a (nI fr) (nI n) e36 tk36 pp36 w36 op36 1 (nI q36)) _
      refine P0.b GX11_not4 3 (ob := []) (cf' := (60, [some (.ref 0), some (.int v36), none, none], [.int 60, .ref 0], hT g a (nI fr) (nI n) e36 tk36 pp36 w36 op36 1 (nI q36))) rfl trivial ?_
      refine P0.cd (d0 := 0) (as := [.ref 0, .int 60]) (rest := []) (r1 := some (.int 0)) (h1 := hT g a (nI fr) (nI n) e36 tk36 pp36 w36 op36 1 (nI q36)) (st' := [.int 0]) GX11_isSign kX11_not4_60 rfl ⟨_, _, rfl, rfl, .inl ⟨_, _, _, _, rfl, rfl⟩⟩ (Nat.le_of_ble_eq_true rfl) (Nat.le_of_ble_eq_true rfl) (e_isSign_bad (c := 60)) (Nat.le_of_ble_eq_true rfl) rfl (Nat.le_of_ble_eq_true rfl) rfl ?_
      refine P0.b GX11_not4 3 (ob := []) (cf' := (69, [some (.ref 0), some (.int v36), none, none], [.int 61, .ref 0], hT g a (nI fr) (nI n) e36 tk36 pp36 w36 op36 1 (nI q36))) rfl trivial ?_
      refine P0.cd (d0 := 0) (as := [.ref 0, .int 61]) (rest := []) (r1 := some (.int 0)) (h1 := hT g a (nI fr) (nI n) e36 tk36 pp36 w36 op36 1 (nI q36)) (st' := [.int 0]) GX11_isSign kX11_not4_69 rfl ⟨_, _, rfl, rfl, .inl ⟨_, _, _, _, rfl, rfl⟩⟩ (Nat.le_of_ble_eq_true rfl) (Nat.le_of_ble_eq_true rfl) (e_isSign_bad (c := 61)) (Nat.le_of_ble_eq_true rfl) rfl (Nat.le_of_ble_eq_true rfl) rfl ?_
      refine P0.b GX11_not4 2 (ob := []) (cf' := (76, [some (.ref 0), some (.int v36), none, none], [.int v36], hT g a (nI fr) (nI n) e36 tk36 pp36 w36 op36 1 (nI q36))) rfl trivial ?_
      exact P0.ri (by decide +kernel) rfl rfl (QP.no ((pnot_sum h1).trans (by rw [hR36]; rfl)) v36 e36 tk36 pp36 w36 op36)
    · rw [hR36] at hq36
      obtain ⟨w36, fl36, rfl, rfl, hw36, hp36⟩ := hq36
      show P0 _ _ _ _ (56, [some (.ref 0), none, none, none], [.int x36], hT g a (nI fr) (nI n) (nI (en (Bt (a 1) fr n) p36)) (kd (Bt (a 1) fr n) p36) (nI p36) w36 op 0 fl36) _
      refine P0.b GX11_not4 3 (ob := []) (cf' := (60, [some (.ref 0), some (.int x36), none, none], [.int 60, .ref 0], hT g a (nI fr) (nI n) (nI (en (Bt (a 1) fr n) p36)) (kd (Bt (a 1) fr n) p36) (nI p36) w36 op 0 fl36)) rfl trivial ?_
      refine P0.cd (d0 := 0) (as := [.ref 0, .int 60]) (rest := []) (r1 := some (.int (if sg (Bt (a 1) fr n) p36 = (-19) then 1 else 0))) (h1 := hT g a (nI fr) (nI n) (nI (en (Bt (a 1) fr n) p36)) (kd (Bt (a 1) fr n) p36) (nI p36) w36 op 0 fl36) (st' := [.int (if sg (Bt (a 1) fr n) p36 = (-19) then 1 else 0)]) GX11_isSign kX11_not4_60 rfl ⟨_, _, rfl, rfl, .inl ⟨_, _, _, _, rfl, rfl⟩⟩ (Nat.le_of_ble_eq_true rfl) (Nat.le_of_ble_eq_true rfl) (e_isSign_ok hw36 (c := 60) (code := (-19)) (by decide +kernel)) (Nat.le_of_ble_eq_true rfl) rfl (Nat.le_of_ble_eq_true rfl) rfl ?_
      refine P0.b GX11_not4 1 (ob := []) (cf' := (if (if sg (Bt (a 1) fr n) p36 = (-19) then 1 else 0) = 0 then 66 else 77, [some (.ref 0), some (.int x36), none, none], [], hT g a (nI fr) (nI n) (nI (en (Bt (a 1) fr n) p36)) (kd (Bt (a 1) fr n) p36) (nI p36) w36 op 0 fl36)) rfl trivial ?_
      refine P0.ifB (fun h2 => ?_) (fun h2 => ?_)
      · refine P0.b GX11_not4 2 (ob := []) (cf' := (69, [some (.ref 0), some (.int x36), none, none], [.int 61, .ref 0], hT g a (nI fr) (nI n) (nI (en (Bt (a 1) fr n) p36)) (kd (Bt (a 1) fr n) p36) (nI p36) w36 op 0 fl36)) rfl trivial ?_
        refine P0.cd (d0 := 0) (as := [.ref 0, .int 61]) (rest := []) (r1 := some (.int (if sg (Bt (a 1) fr n) p36 = (-20) then 1 else 0))) (h1 := hT g a (nI fr) (nI n) (nI (en (Bt (a 1) fr n) p36)) (kd (Bt (a 1) fr n) p36) (nI p36) w36 op 0 fl36) (st' := [.int (if sg (Bt (a 1) fr n) p36 = (-20) then 1 else 0)]) GX11_isSign kX11_not4_69 rfl ⟨_, _, rfl, rfl, .inl ⟨_, _, _, _, rfl, rfl⟩⟩ (Nat.le_of_ble_eq_true rfl) (Nat.le_of_ble_eq_true rfl) (e_isSign_ok hw36 (c := 61) (code := (-20)) (by decide +kernel)) (Nat.le_of_ble_eq_true rfl) rfl (Nat.le_of_ble_eq_true rfl) rfl ?_
        refine P0.b GX11_not4 1 (ob := []) (cf' := (if (if sg (Bt (a 1) fr n) p36 = (-20) then 1 else 0) = 0 then 75 else 77, [some (.ref 0), some (.int x36), none, none], [], hT g a (nI fr) (nI n) (nI (en (Bt (a 1) fr n) p36)) (kd (Bt (a 1) fr n) p36) (nI p36) w36 op 0 fl36)) rfl trivial ?_
        refine P0.ifB (fun h3 => ?_) (fun h3 => ?_)
        · refine P0.b GX11_not4 1 (ob := []) (cf' := (76, [some (.ref 0), some (.int x36), none, none], [.int x36], hT g a (nI fr) (nI n) (nI (en (Bt (a 1) fr n) p36)) (kd (Bt (a 1) fr n) p36) (nI p36) w36 op 0 fl36)) rfl trivial ?_
          exact P0.ri (by decide +kernel) rfl rfl (QP.yes ((pnot_sum h1).trans (by rw [hR36]; exact if_neg (fun z => z.elim h2 h3))) hw36 hp36)
        · refine P0.b GX11_not4 5 (ob := []) (cf' := (if lg_cmp w36 60 = 0 then 88 else 92, [some (.ref 0), some (.int x36), none, none], [], hT g a (nI fr) (nI n) (nI (en (Bt (a 1) fr n) p36)) (kd (Bt (a 1) fr n) p36) (nI p36) w36 op 0 fl36)) rfl trivial ?_
          rw [if_neg (show ¬ (lg_cmp w36 60 = 0) from by rw [sB_of (c := 61) (code := -20) (by decide +kernel) h3 hw36]; decide)]
          refine P0.b GX11_not4 3 (ob := []) (cf' := (95, [some (.ref 0), some (.int x36), some (.int 0), none], [.ref 0], hT g a (nI fr) (nI n) (nI (en (Bt (a 1) fr n) p36)) (kd (Bt (a 1) fr n) p36) (nI p36) w36 op 0 fl36)) rfl trivial ?_
          refine P0.cs (as := [.ref 0]) (rest := []) GX11_nextToken kX11_not4_95 rfl ⟨_, _, rfl, rfl, .inl ⟨_, _, _, _, rfl, rfl⟩⟩ (Nat.le_of_ble_eq_true rfl) (Nat.le_of_ble_eq_true rfl) (P0.mono (e_X11_nextToken hT0 (en (Bt (a 1) fr n) p36) (en_le hp36) _ _ _ _ _ _) (Nat.le_of_ble_eq_true rfl) (Nat.zero_le _) (Nat.zero_le _) (fun _ _ q => q)) (Nat.le_of_ble_eq_true rfl) (fun _ _ q => q.len) ?_
          rintro _ _ ⟨w37, rfl, rfl, hw37⟩
          have hp37 := nx_le (f := a 1) (fr := fr) hp36
          show P0 _ _ _ _ (98, [some (.ref 0), some (.int x36), some (.int 0), none], [], hT g a (nI fr) (nI n) (nI (en (Bt (a 1) fr n) (nx (Bt (a 1) fr n) p36))) (kd (Bt (a 1) fr n) (nx (Bt (a 1) fr n) p36)) (nI (nx (Bt (a 1) fr n) p36)) w37 op 0 fl36) _
          refine P0.b GX11_not4 1 (ob := []) (cf' := (99, [some (.ref 0), some (.int x36), some (.int 0), none], [.ref 0], hT g a (nI fr) (nI n) (nI (en (Bt (a 1) fr n) (nx (Bt (a 1) fr n) p36))) (kd (Bt (a 1) fr n) (nx (Bt (a 1) fr n) p36)) (nI (nx (Bt (a 1) fr n) p36)) w37 op 0 fl36)) rfl trivial ?_
          refine P0.cs (as := [.ref 0]) (rest := []) GX11_added4 kX11_not4_99 rfl ⟨_, _, rfl, rfl, .inl ⟨_, _, _, _, rfl, rfl⟩⟩ (Nat.le_of_ble_eq_true rfl) (Nat.le_of_ble_eq_true rfl) (P0.mono (e_X11_added4 hT0 hw37 hp37 (op := op) hop) (Nat.le_of_ble_eq_true rfl) (Nat.zero_le _) (Nat.zero_le _) (fun _ _ q => q)) (Nat.le_of_ble_eq_true rfl) (fun _ _ q => q.len) ?_
          rintro r1038 h1038 hq38
          have hq38 : QP g a fr n op (psum (sg (Bt (a 1) fr n)) (nx (Bt (a 1) fr n)) (vA g) true (lvl (sg (Bt (a 1) fr n)) (nx (Bt (a 1) fr n)) (vA g) 0 0) (lvl (sg (Bt (a 1) fr n)) (nx (Bt (a 1) fr n)) (vA g) 0 2) (nx (Bt (a 1) fr n) p36)) r1038 h1038 := hq38
          rcases hR38 : psum (sg (Bt (a 1) fr n)) (nx (Bt (a 1) fr n)) (vA g) true (lvl (sg (Bt (a 1) fr n)) (nx (Bt (a 1) fr n)) (vA g) 0 0) (lvl (sg (Bt (a 1) fr n)) (nx (Bt (a 1) fr n)) (vA g) 0 2) (nx (Bt (a 1) fr n) p36) with q38 | ⟨x38, p38⟩
          · rw [hR38] at hq38
            obtain ⟨v38, e38, tk38, pp38, w38, op38, rfl, rfl⟩ := hq38
            show P0 _ _ _ _ (102, [some (.ref 0), some (.int x36), some (.int 0), none], [.int v38], hT g a (nI fr) (nI n) e38 tk38 pp38 w38 op38 1 (nI q38)) _
            refine P0.b GX11_not4 6 (ob := []) (cf' := (if x36 = v38 then 120 else 124, [some (.ref 0), some (.int x36), some (.int 0), some (.int v38)], [], hT g a (nI fr) (nI n) e38 tk38 pp38 w38 op38 1 (nI q38))) rfl trivial ?_
            refine P0.if (fun h4 => ?_) (fun h4 => ?_)
            · refine P0.b GX11_not4 2 (ob := []) (cf' := (125, [some (.ref 0), some (.int x36), some (.int 0), some (.int v38)], [.int 1], hT g a (nI fr) (nI n) e38 tk38 pp38 w38 op38 1 (nI q38))) rfl trivial ?_
              exact P0.ri (by decide +kernel) rfl rfl (QP.no ((pnot_sum h1).trans (by rw [hR36]; show (if _ then _ else _) = _; rw [if_pos (Or.inr h3), hR38]; rfl)) 1 e38 tk38 pp38 w38 op38)
            · refine P0.b GX11_not4 1 (ob := []) (cf' := (125, [some (.ref 0), some (.int x36), some (.int 0), some (.int v38)], [.int 0], hT g a (nI fr) (nI n) e38 tk38 pp38 w38 op38 1 (nI q38))) rfl trivial ?_
              exact P0.ri (by decide +kernel) rfl rfl (QP.no ((pnot_sum h1).trans (by rw [hR36]; show (if _ then _ else _) = _; rw [if_pos (Or.inr h3), hR38]; rfl)) 0 e38 tk38 pp38 w38 op38)
          · rw [hR38] at hq38
            obtain ⟨w38, fl38, rfl, rfl, hw38, hp38⟩ := hq38
            show P0 _ _ _ _ (102, [some (.ref 0), some (.int x36), some (.int 0), none], [.int x38], hT g a (nI fr) (nI n) (nI (en (Bt (a 1) fr n) p38)) (kd (Bt (a 1) fr n) p38) (nI p38) w38 op 0 fl38) _
            refine P0.b GX11_not4 6 (ob := []) (cf' := (if x36 = x38 then 120 else 124, [some (.ref 0), some (.int x36), some (.int 0), some (.int x38)], [], hT g a (nI fr) (nI n) (nI (en (Bt (a 1) fr n) p38)) (kd (Bt (a 1) fr n) p38) (nI p38) w38 op 0 fl38)) rfl trivial ?_
            refine P0.if (fun h5 => ?_) (fun h5 => ?_)
            · refine P0.b GX11_not4 2 (ob := []) (cf' := (125, [some (.ref 0), some (.int x36), some (.int 0), some (.int x38)], [.int 1], hT g a (nI fr) (nI n) (nI (en (Bt (a 1) fr n) p38)) (kd (Bt (a 1) fr n) p38) (nI p38) w38 op 0 fl38)) rfl trivial ?_
              exact P0.ri (by decide +kernel) rfl rfl (QP.yes ((pnot_sum h1).trans (by rw [hR36]; show (if _ then _ else _) = _; rw [if_pos (Or.inr h3), hR38]; show Sum.inr (vBn _ _ _, _) = _; rw [h3]; simp [vBn, h5])) hw38 hp38)
            · refine P0.b GX11_not4 1 (ob := []) (cf' := (125, [some (.ref 0), some (.int x36), some (.int 0), some (.int x38)], [.int 0], hT g a (nI fr) (nI n) (nI (en (Bt (a 1) fr n) p38)) (kd (Bt (a 1) fr n) p38) (nI p38) w38 op 0 fl38)) rfl trivial ?_
              exact P0.ri (by decide +kernel) rfl rfl (QP.yes ((pnot_sum h1).trans (by rw [hR36]; show (if _ then _ else _) = _; rw [if_pos (Or.inr h3), hR38]; show Sum.inr (vBn _ _ _, _) = _; rw [h3]; simp [vBn, h5])) hw38 hp38)
      · refine P0.b GX11_not4 5 (ob := []) (cf' := (if lg_cmp w36 60 = 0 then 88 else 92, [some (.ref 0), some (.int x36), none, none], [], hT g a (nI fr) (nI n) (nI (en (Bt (a 1) fr n) p36)) (kd (Bt (a 1) fr n) p36) (nI p36) w36 op 0 fl36)) rfl trivial ?_
        rw [if_pos (show lg_cmp w36 60 = 0 from (lgc_eq _ _).mpr (sB_of (c := 60) (code := -19) (by decide +kernel) h2 hw36))]
        refine P0.b GX11_not4 4 (ob := []) (cf' := (95, [some (.ref 0), some (.int x36), some (.int 1), none], [.ref 0], hT g a (nI fr) (nI n) (nI (en (Bt (a 1) fr n) p36)) (kd (Bt (a 1) fr n) p36) (nI p36) w36 op 0 fl36)) rfl trivial ?_
        refine P0.cs (as := [.ref 0]) (rest := []) GX11_nextToken kX11_not4_95 rfl ⟨_, _, rfl, rfl, .inl ⟨_, _, _, _, rfl, rfl⟩⟩ (Nat.le_of_ble_eq_true rfl) (Nat.le_of_ble_eq_true rfl) (P0.mono (e_X11_nextToken hT0 (en (Bt (a 1) fr n) p36) (en_le hp36) _ _ _ _ _ _) (Nat.le_of_ble_eq_true rfl) (Nat.zero_le _) (Nat.zero_le _) (fun _ _ q => q)) (Nat.le_of_ble_eq_true rfl) (fun _ _ q => q.len) ?_
        rintro _ _ ⟨w39, rfl, rfl, hw39⟩
        have hp39 := nx_le (f := a 1) (fr := fr) hp36
        show P0 _ _ _ _ (98, [some (.ref 0), some (.int x36), some (.int 1), none], [], hT g a (nI fr) (nI n) (nI (en (Bt (a 1) fr n) (nx (Bt (a 1) fr n) p36))) (kd (Bt (a 1) fr n) (nx (Bt (a 1) fr n) p36)) (nI (nx (Bt (a 1) fr n) p36)) w39 op 0 fl36) _
        refine P0.b GX11_not4 1 (ob := []) (cf' := (99, [some (.ref 0), some (.int x36), some (.int 1), none], [.ref 0], hT g a (nI fr) (nI n) (nI (en (Bt (a 1) fr n) (nx (Bt (a 1) fr n) p36))) (kd (Bt (a 1) fr n) (nx (Bt (a 1) fr n) p36)) (nI (nx (Bt (a 1) fr n) p36)) w39 op 0 fl36)) rfl trivial ?_
        refine P0.cs (as := [.ref 0]) (rest := []) GX11_added4 kX11_not4_99 rfl ⟨_, _, rfl, rfl, .inl ⟨_, _, _, _, rfl, rfl⟩⟩ (Nat.le_of_ble_eq_true rfl) (Nat.le_of_ble_eq_true rfl) (P0.mono (e_X11_added4 hT0 hw39 hp39 (op := op) hop) (Nat.le_of_ble_eq_true rfl) (Nat.zero_le _) (Nat.zero_le _) (fun _ _ q => q)) (Nat.le_of_ble_eq_true rfl) (fun _ _ q => q.len) ?_
        rintro r1040 h1040 hq40
        have hq40 : QP g a fr n op (psum (sg (Bt (a 1) fr n)) (nx (Bt (a 1) fr n)) (vA g) true (lvl (sg (Bt (a 1) fr n)) (nx (Bt (a 1) fr n)) (vA g) 0 0) (lvl (sg (Bt (a 1) fr n)) (nx (Bt (a 1) fr n)) (vA g) 0 2) (nx (Bt (a 1) fr n) p36)) r1040 h1040 := hq40
        rcases hR40 : psum (sg (Bt (a 1) fr n)) (nx (Bt (a 1) fr n)) (vA g) true (lvl (sg (Bt (a 1) fr n)) (nx (Bt (a 1) fr n)) (vA g) 0 0) (lvl (sg (Bt (a 1) fr n)) (nx (Bt (a 1) fr n)) (vA g) 0 2) (nx (Bt (a 1) fr n) p36) with q40 | ⟨x40, p40⟩
        · rw [hR40] at hq40
          obtain ⟨v40, e40, tk40, pp40, w40, op40, rfl, rfl⟩ := hq40
          show P0 _ _ _ _ (102, [some (.ref 0), some (.int x36), some (.int 1), none], [.int v40], hT g a (nI fr) (nI n) e40 tk40 pp40 w40 op40 1 (nI q40)) _
          refine P0.b GX11_not4 6 (ob := []) (cf' := (if v40 ≤ x36 then 124 else 112, [some (.ref 0), some (.int x36), some (.int 1), some (.int v40)], [], hT g a (nI fr) (nI n) e40 tk40 pp40 w40 op40 1 (nI q40))) rfl trivial ?_
          refine P0.if (fun h6 => ?_) (fun h6 => ?_)
          · refine P0.b GX11_not4 1 (ob := []) (cf' := (125, [some (.ref 0), some (.int x36), some (.int 1), some (.int v40)], [.int 0], hT g a (nI fr) (nI n) e40 tk40 pp40 w40 op40 1 (nI q40))) rfl trivial ?_
            exact P0.ri (by decide +kernel) rfl rfl (QP.no ((pnot_sum h1).trans (by rw [hR36]; show (if _ then _ else _) = _; rw [if_pos (Or.inl h2), hR40]; rfl)) 0 e40 tk40 pp40 w40 op40)
          · refine P0.b GX11_not4 3 (ob := []) (cf' := (125, [some (.ref 0), some (.int x36), some (.int 1), some (.int v40)], [.int 1], hT g a (nI fr) (nI n) e40 tk40 pp40 w40 op40 1 (nI q40))) rfl trivial ?_
            exact P0.ri (by decide +kernel) rfl rfl (QP.no ((pnot_sum h1).trans (by rw [hR36]; show (if _ then _ else _) = _; rw [if_pos (Or.inl h2), hR40]; rfl)) 1 e40 tk40 pp40 w40 op40)
        · rw [hR40] at hq40
          obtain ⟨w40, fl40, rfl, rfl, hw40, hp40⟩ := hq40
          show P0 _ _ _ _ (102, [some (.ref 0), some (.int x36), some (.int 1), none], [.int x40], hT g a (nI fr) (nI n) (nI (en (Bt (a 1) fr n) p40)) (kd (Bt (a 1) fr n) p40) (nI p40) w40 op 0 fl40) _
          refine P0.b GX11_not4 6 (ob := []) (cf' := (if x40 ≤ x36 then 124 else 112, [some (.ref 0), some (.int x36), some (.int 1), some (.int x40)], [], hT g a (nI fr) (nI n) (nI (en (Bt (a 1) fr n) p40)) (kd (Bt (a 1) fr n) p40) (nI p40) w40 op 0 fl40)) rfl trivial ?_
          refine P0.if (fun h7 => ?_) (fun h7 => ?_)
          · refine P0.b GX11_not4 1 (ob := []) (cf' := (125, [some (.ref 0), some (.int x36), some (.int 1), some (.int x40)], [.int 0], hT g a (nI fr) (nI n) (nI (en (Bt (a 1) fr n) p40)) (kd (Bt (a 1) fr n) p40) (nI p40) w40 op 0 fl40)) rfl trivial ?_
            exact P0.ri (by decide +kernel) rfl rfl (QP.yes ((pnot_sum h1).trans (by rw [hR36]; show (if _ then _ else _) = _; rw [if_pos (Or.inl h2), hR40]; show Sum.inr (vBn _ _ _, _) = _; rw [h2]; simp [vBn, h7])) hw40 hp40)
          · refine P0.b GX11_not4 3 (ob := []) (cf' := (125, [some (.ref 0), some (.int x36), some (.int 1), some (.int x40)], [.int 1], hT g a (nI fr) (nI n) (nI (en (Bt (a 1) fr n) p40)) (kd (Bt (a 1) fr n) p40) (nI p40) w40 op 0 fl40)) rfl trivial ?_
            exact P0.ri (by decide +kernel) rfl rfl (QP.yes ((pnot_sum h1).trans (by rw [hR36]; show (if _ then _ else _) = _; rw [if_pos (Or.inl h2), hR40]; show Sum.inr (vBn _ _ _, _) = _; rw [h2]; simp [vBn, h7])) hw40 hp40)
  · refine P0.b GX11_not4 1 (ob := []) (cf' := (19, [some (.ref 0), none, none, none], [.ref 0], hT g a (nI fr) (nI n) (nI (en (Bt (a 1) fr n) p)) (kd (Bt (a 1) fr n) p) (nI p) w op 0 fl)) rfl trivial ?_
    refine P0.cs (as := [.ref 0]) (rest := []) GX11_opens kX11_not4_19 rfl ⟨_, _, rfl, rfl, .inl ⟨_, _, _, _, rfl, rfl⟩⟩ (Nat.le_of_ble_eq_true rfl) (Nat.le_of_ble_eq_true rfl) (P0.mono (e_opens_yes hT0 hp (op := op) (by rw [hop]; decide)) (Nat.le_of_ble_eq_true rfl) (Nat.zero_le _) (Nat.zero_le _) (fun _ _ q => q)) (Nat.le_of_ble_eq_true rfl) (fun _ _ q => by obtain ⟨_, _, rfl, _⟩ := q; exact hT_len.trans hT_len.symm) ?_
    rintro _ _ ⟨w41, rfl, rfl, hw41⟩
    have hp41 := nx_le (f := a 1) (fr := fr) hp
    show P0 _ _ _ _ (22, [some (.ref 0), none, none, none], [.int 1], hT g a (nI fr) (nI n) (nI (en (Bt (a 1) fr n) (nx (Bt (a 1) fr n) p))) (kd (Bt (a 1) fr n) (nx (Bt (a 1) fr n) p)) (nI (nx (Bt (a 1) fr n) p)) w41 (op + 1) 0 fl) _
    refine P0.b GX11_not4 2 (ob := []) (cf' := (28, [some (.ref 0), none, none, none], [.ref 0], hT g a (nI fr) (nI n) (nI (en (Bt (a 1) fr n) (nx (Bt (a 1) fr n) p))) (kd (Bt (a 1) fr n) (nx (Bt (a 1) fr n) p)) (nI (nx (Bt (a 1) fr n) p)) w41 (op + 1) 0 fl)) rfl trivial ?_
    refine P0.cs (as := [.ref 0]) (rest := []) GX11_not5 kX11_not4_28 rfl ⟨_, _, rfl, rfl, .inl ⟨_, _, _, _, rfl, rfl⟩⟩ (Nat.le_of_ble_eq_true rfl) (Nat.le_of_ble_eq_true rfl) (P0.mono (e_X11_not5 hT0 hw41 hp41 (op := op + 1) (by rw [hop]; decide)) (Nat.le_of_ble_eq_true rfl) (Nat.zero_le _) (Nat.zero_le _) (fun _ _ q => q)) (Nat.le_of_ble_eq_true rfl) (fun _ _ q => q.len) ?_
    rintro r1042 h1042 hq42
    have hq42 : QP g a fr n (op + 1) (lvl (sg (Bt (a 1) fr n)) (nx (Bt (a 1) fr n)) (vA g) 0 1 (nx (Bt (a 1) fr n) p)) r1042 h1042 := hq42
    rcases hR42 : lvl (sg (Bt (a 1) fr n)) (nx (Bt (a 1) fr n)) (vA g) 0 1 (nx (Bt (a 1) fr n) p) with q42 | ⟨x42, p42⟩
    · rw [hR42] at hq42
      obtain ⟨v42, e42, tk42, pp42, w42, op42, rfl, rfl⟩ := hq42
      show P0 _ _ _ _ (31, [some (.ref 0), none, none, none], [.int v42], hT g a (nI fr) (nI n) e42 tk42 pp42 w42 op42 1 (nI q42)) _
      refine P0.b GX11_not4 9 (ob := []) (cf' := (if v42 = 0 then 46 else 50, [some (.ref 0), some (.int v42), none, none], [], hT g a (nI fr) (nI n) e42 tk42 pp42 w42 (op42 - 1) 1 (nI q42))) rfl trivial ?_
      refine P0.if (fun h8 => ?_) (fun h8 => ?_)
      · refine P0.b GX11_not4 2 (ob := []) (cf' := (51, [some (.ref 0), some (.int v42), none, none], [.int 1], hT g a (nI fr) (nI n) e42 tk42 pp42 w42 (op42 - 1) 1 (nI q42))) rfl trivial ?_
        exact P0.ri (by decide +kernel) rfl rfl (QP.no (pnot_not_no h1 hR42) 1 e42 tk42 pp42 w42 (op42 - 1))
      · refine P0.b GX11_not4 1 (ob := []) (cf' := (51, [some (.ref 0), some (.int v42), none, none], [.int 0], hT g a (nI fr) (nI n) e42 tk42 pp42 w42 (op42 - 1) 1 (nI q42))) rfl trivial ?_
        exact P0.ri (by decide +kernel) rfl rfl (QP.no (pnot_not_no h1 hR42) 0 e42 tk42 pp42 w42 (op42 - 1))
    · rw [hR42] at hq42
      obtain ⟨w42, fl42, rfl, rfl, hw42, hp42⟩ := hq42
      show P0 _ _ _ _ (31, [some (.ref 0), none, none, none], [.int x42], hT g a (nI fr) (nI n) (nI (en (Bt (a 1) fr n) p42)) (kd (Bt (a 1) fr n) p42) (nI p42) w42 (op + 1) 0 fl42) _
      refine P0.b GX11_not4 9 (ob := []) (cf' := (if x42 = 0 then 46 else 50, [some (.ref 0), some (.int x42), none, none], [], hT g a (nI fr) (nI n) (nI (en (Bt (a 1) fr n) p42)) (kd (Bt (a 1) fr n) p42) (nI p42) w42 ((op + 1) - 1) 0 fl42)) rfl trivial ?_
      rw [show (op + 1) - 1 = op from by rw [hop]; decide]
      refine P0.if (fun h9 => ?_) (fun h9 => ?_)
      · refine P0.b GX11_not4 2 (ob := []) (cf' := (51, [some (.ref 0), some (.int x42), none, none], [.int 1], hT g a (nI fr) (nI n) (nI (en (Bt (a 1) fr n) p42)) (kd (Bt (a 1) fr n) p42) (nI p42) w42 op 0 fl42)) rfl trivial ?_
        exact P0.ri (by decide +kernel) rfl rfl (QP.yes (pnot_not_yes h1 hR42 (by simp [vA, vUn, h9])) hw42 hp42)
      · refine P0.b GX11_not4 1 (ob := []) (cf' := (51, [some (.ref 0), some (.int x42), none, none], [.int 0], hT g a (nI fr) (nI n) (nI (en (Bt (a 1) fr n) p42)) (kd (Bt (a 1) fr n) p42) (nI p42) w42 op 0 fl42)) rfl trivial ?_
        exact P0.ri (by decide +kernel) rfl rfl (QP.yes (pnot_not_yes h1 hR42 (by simp [vA, vUn, h9])) hw42 hp42)
set_option maxHeartbeats 2000000 in
theorem lp_X11_both4 {g : Nat → Int32} {a : Nat → Nat → Int32} {fr n : Nat} (hT0 : TxOK a fr n) {op : Int32} (hop : op = 4) : ∀ (f : Nat) (x : Int32) (p : Nat) (w : Int64) (fl : Int32), wOK (Bt (a 1) fr n) p w → p ≤ n → n ≤ p + f → P0 14 0 0 mX11_both4 (5, [some (.ref 0), some (.int x), none], [], hT g a (nI fr) (nI n) (nI (en (Bt (a 1) fr n) p)) (kd (Bt (a 1) fr n) p) (nI p) w op 0 fl) (QP g a fr n op (pch (sg (Bt (a 1) fr n)) (nx (Bt (a 1) fr n)) (vA g).2.2 jBoth (pnot (sg (Bt (a 1) fr n)) (nx (Bt (a 1) fr n)) (vA g) true (lvl (sg (Bt (a 1) fr n)) (nx (Bt (a 1) fr n)) (vA g) 0 0) (lvl (sg (Bt (a 1) fr n)) (nx (Bt (a 1) fr n)) (vA g) 0 1) (lvl (sg (Bt (a 1) fr n)) (nx (Bt (a 1) fr n)) (vA g) 0 2)) f x p))
  | 0, x, p, w, fl, hw, hp, hpf => by
    refine P0.b GX11_both4 9 (ob := []) (cf' := (17, [some (.ref 0), some (.int x), none], [.int 0, .int 0, .int 0, .int 0, .int 0, .int 100, .int 110, .int 97, .ref 0], hT g a (nI fr) (nI n) (nI (en (Bt (a 1) fr n) p)) (kd (Bt (a 1) fr n) p) (nI p) w op 0 fl)) rfl trivial ?_
    refine P0.cd (d0 := 2) (as := [.ref 0, .int 97, .int 110, .int 100, .int 0, .int 0, .int 0, .int 0, .int 0]) (rest := []) (r1 := some (.int (if sg (Bt (a 1) fr n) p = (-11) then 1 else 0))) (h1 := hT g a (nI fr) (nI n) (nI (en (Bt (a 1) fr n) p)) (kd (Bt (a 1) fr n) p) (nI p) w op 0 fl) (st' := [.int (if sg (Bt (a 1) fr n) p = (-11) then 1 else 0)]) GX11_isWord kX11_both4_17 rfl ⟨_, _, rfl, rfl, .inl ⟨_, _, _, _, rfl, rfl⟩⟩ (Nat.le_of_ble_eq_true rfl) (Nat.le_of_ble_eq_true rfl) (e_isWord_ok hT0 hp (cs := [97, 110, 100]) (code := (-11)) (by decide +kernel) (by decide) (by decide)) (Nat.le_of_ble_eq_true rfl) rfl (Nat.le_of_ble_eq_true rfl) rfl ?_
    refine P0.b GX11_both4 1 (ob := []) (cf' := (if (if sg (Bt (a 1) fr n) p = (-11) then 1 else 0) = 0 then 49 else 23, [some (.ref 0), some (.int x), none], [], hT g a (nI fr) (nI n) (nI (en (Bt (a 1) fr n) p)) (kd (Bt (a 1) fr n) p) (nI p) w op 0 fl)) rfl trivial ?_
    rw [if_neg (show ¬ (sg (Bt (a 1) fr n) p = (-11)) from by rw [sg_end hpf]; decide), if_pos rfl]
    refine P0.b GX11_both4 1 (ob := []) (cf' := (50, [some (.ref 0), some (.int x), none], [.int x], hT g a (nI fr) (nI n) (nI (en (Bt (a 1) fr n) p)) (kd (Bt (a 1) fr n) p) (nI p) w op 0 fl)) rfl trivial ?_
    exact P0.ri (by decide +kernel) rfl rfl (QP.yes rfl hw hp)
  | f + 1, x, p, w, fl, hw, hp, hpf => by
    refine P0.b GX11_both4 9 (ob := []) (cf' := (17, [some (.ref 0), some (.int x), none], [.int 0, .int 0, .int 0, .int 0, .int 0, .int 100, .int 110, .int 97, .ref 0], hT g a (nI fr) (nI n) (nI (en (Bt (a 1) fr n) p)) (kd (Bt (a 1) fr n) p) (nI p) w op 0 fl)) rfl trivial ?_
    refine P0.cd (d0 := 2) (as := [.ref 0, .int 97, .int 110, .int 100, .int 0, .int 0, .int 0, .int 0, .int 0]) (rest := []) (r1 := some (.int (if sg (Bt (a 1) fr n) p = (-11) then 1 else 0))) (h1 := hT g a (nI fr) (nI n) (nI (en (Bt (a 1) fr n) p)) (kd (Bt (a 1) fr n) p) (nI p) w op 0 fl) (st' := [.int (if sg (Bt (a 1) fr n) p = (-11) then 1 else 0)]) GX11_isWord kX11_both4_17 rfl ⟨_, _, rfl, rfl, .inl ⟨_, _, _, _, rfl, rfl⟩⟩ (Nat.le_of_ble_eq_true rfl) (Nat.le_of_ble_eq_true rfl) (e_isWord_ok hT0 hp (cs := [97, 110, 100]) (code := (-11)) (by decide +kernel) (by decide) (by decide)) (Nat.le_of_ble_eq_true rfl) rfl (Nat.le_of_ble_eq_true rfl) rfl ?_
    refine P0.b GX11_both4 1 (ob := []) (cf' := (if (if sg (Bt (a 1) fr n) p = (-11) then 1 else 0) = 0 then 49 else 23, [some (.ref 0), some (.int x), none], [], hT g a (nI fr) (nI n) (nI (en (Bt (a 1) fr n) p)) (kd (Bt (a 1) fr n) p) (nI p) w op 0 fl)) rfl trivial ?_
    refine P0.ifB (fun h1 => ?_) (fun h1 => ?_)
    · refine P0.b GX11_both4 1 (ob := []) (cf' := (50, [some (.ref 0), some (.int x), none], [.int x], hT g a (nI fr) (nI n) (nI (en (Bt (a 1) fr n) p)) (kd (Bt (a 1) fr n) p) (nI p) w op 0 fl)) rfl trivial ?_
      exact P0.ri (by decide +kernel) rfl rfl (QP.yes (pch_stop (show jBoth (sg (Bt (a 1) fr n) p) = false from by simp only [jBoth]; exact decide_eq_false h1)) hw hp)
    · refine P0.b GX11_both4 1 (ob := []) (cf' := (24, [some (.ref 0), some (.int x), none], [.ref 0], hT g a (nI fr) (nI n) (nI (en (Bt (a 1) fr n) p)) (kd (Bt (a 1) fr n) p) (nI p) w op 0 fl)) rfl trivial ?_
      refine P0.cs (as := [.ref 0]) (rest := []) GX11_nextToken kX11_both4_24 rfl ⟨_, _, rfl, rfl, .inl ⟨_, _, _, _, rfl, rfl⟩⟩ (Nat.le_of_ble_eq_true rfl) (Nat.le_of_ble_eq_true rfl) (P0.mono (e_X11_nextToken hT0 (en (Bt (a 1) fr n) p) (en_le hp) _ _ _ _ _ _) (Nat.le_of_ble_eq_true rfl) (Nat.zero_le _) (Nat.zero_le _) (fun _ _ q => q)) (Nat.le_of_ble_eq_true rfl) (fun _ _ q => q.len) ?_
      rintro _ _ ⟨w43, rfl, rfl, hw43⟩
      have hp43 := nx_le (f := a 1) (fr := fr) hp
      show P0 _ _ _ _ (27, [some (.ref 0), some (.int x), none], [], hT g a (nI fr) (nI n) (nI (en (Bt (a 1) fr n) (nx (Bt (a 1) fr n) p))) (kd (Bt (a 1) fr n) (nx (Bt (a 1) fr n) p)) (nI (nx (Bt (a 1) fr n) p)) w43 op 0 fl) _
      refine P0.b GX11_both4 1 (ob := []) (cf' := (28, [some (.ref 0), some (.int x), none], [.ref 0], hT g a (nI fr) (nI n) (nI (en (Bt (a 1) fr n) (nx (Bt (a 1) fr n) p))) (kd (Bt (a 1) fr n) (nx (Bt (a 1) fr n) p)) (nI (nx (Bt (a 1) fr n) p)) w43 op 0 fl)) rfl trivial ?_
      refine P0.cs (as := [.ref 0]) (rest := []) GX11_not4 kX11_both4_28 rfl ⟨_, _, rfl, rfl, .inl ⟨_, _, _, _, rfl, rfl⟩⟩ (Nat.le_of_ble_eq_true rfl) (Nat.le_of_ble_eq_true rfl) (P0.mono (e_X11_not4 hT0 hw43 hp43 (op := op) hop) (Nat.le_of_ble_eq_true rfl) (Nat.zero_le _) (Nat.zero_le _) (fun _ _ q => q)) (Nat.le_of_ble_eq_true rfl) (fun _ _ q => q.len) ?_
      rintro r1044 h1044 hq44
      have hq44 : QP g a fr n op (pnot (sg (Bt (a 1) fr n)) (nx (Bt (a 1) fr n)) (vA g) true (lvl (sg (Bt (a 1) fr n)) (nx (Bt (a 1) fr n)) (vA g) 0 0) (lvl (sg (Bt (a 1) fr n)) (nx (Bt (a 1) fr n)) (vA g) 0 1) (lvl (sg (Bt (a 1) fr n)) (nx (Bt (a 1) fr n)) (vA g) 0 2) (nx (Bt (a 1) fr n) p)) r1044 h1044 := hq44
      rcases hR44 : pnot (sg (Bt (a 1) fr n)) (nx (Bt (a 1) fr n)) (vA g) true (lvl (sg (Bt (a 1) fr n)) (nx (Bt (a 1) fr n)) (vA g) 0 0) (lvl (sg (Bt (a 1) fr n)) (nx (Bt (a 1) fr n)) (vA g) 0 1) (lvl (sg (Bt (a 1) fr n)) (nx (Bt (a 1) fr n)) (vA g) 0 2) (nx (Bt (a 1) fr n) p) with q44 | ⟨x44, p44⟩
      · rw [hR44] at hq44
        obtain ⟨v44, e44, tk44, pp44, w44, op44, rfl, rfl⟩ := hq44
        show P0 _ _ _ _ (31, [some (.ref 0), some (.int x), none], [.int v44], hT g a (nI fr) (nI n) e44 tk44 pp44 w44 op44 1 (nI q44)) _
        refine P0.b GX11_both4 3 (ob := []) (cf' := (if x = 0 then 44 else 36, [some (.ref 0), some (.int x), some (.int v44)], [], hT g a (nI fr) (nI n) e44 tk44 pp44 w44 op44 1 (nI q44))) rfl trivial ?_
        refine P0.if (fun h2 => ?_) (fun h2 => ?_)
        · refine P0.b GX11_both4 3 (ob := []) (cf' := (5, [some (.ref 0), some (.int 0), some (.int v44)], [], hT g a (nI fr) (nI n) e44 tk44 pp44 w44 op44 1 (nI q44))) rfl trivial ?_
          refine P0.b GX11_both4 9 (ob := []) (cf' := (17, [some (.ref 0), some (.int 0), some (.int v44)], [.int 0, .int 0, .int 0, .int 0, .int 0, .int 100, .int 110, .int 97, .ref 0], hT g a (nI fr) (nI n) e44 tk44 pp44 w44 op44 1 (nI q44))) rfl trivial ?_
          refine P0.cd (d0 := 2) (as := [.ref 0, .int 97, .int 110, .int 100, .int 0, .int 0, .int 0, .int 0, .int 0]) (rest := []) (r1 := some (.int 0)) (h1 := hT g a (nI fr) (nI n) e44 tk44 pp44 w44 op44 1 (nI q44)) (st' := [.int 0]) GX11_isWord kX11_both4_17 rfl ⟨_, _, rfl, rfl, .inl ⟨_, _, _, _, rfl, rfl⟩⟩ (Nat.le_of_ble_eq_true rfl) (Nat.le_of_ble_eq_true rfl) (e_isWord_bad (c0 := 97) (c1 := 110) (c2 := 100) (c3 := 0) (c4 := 0) (c5 := 0) (c6 := 0) (c7 := 0)) (Nat.le_of_ble_eq_true rfl) rfl (Nat.le_of_ble_eq_true rfl) rfl ?_
          refine P0.b GX11_both4 2 (ob := []) (cf' := (50, [some (.ref 0), some (.int 0), some (.int v44)], [.int 0], hT g a (nI fr) (nI n) e44 tk44 pp44 w44 op44 1 (nI q44))) rfl trivial ?_
          exact P0.ri (by decide +kernel) rfl rfl (QP.no (pch_fail (show jBoth (sg (Bt (a 1) fr n) p) = true from by rw [h1]; decide) hR44) 0 e44 tk44 pp44 w44 op44)
        · refine P0.b GX11_both4 2 (ob := []) (cf' := (if v44 = 0 then 44 else 40, [some (.ref 0), some (.int x), some (.int v44)], [], hT g a (nI fr) (nI n) e44 tk44 pp44 w44 op44 1 (nI q44))) rfl trivial ?_
          refine P0.if (fun h3 => ?_) (fun h3 => ?_)
          · refine P0.b GX11_both4 3 (ob := []) (cf' := (5, [some (.ref 0), some (.int 0), some (.int v44)], [], hT g a (nI fr) (nI n) e44 tk44 pp44 w44 op44 1 (nI q44))) rfl trivial ?_
            refine P0.b GX11_both4 9 (ob := []) (cf' := (17, [some (.ref 0), some (.int 0), some (.int v44)], [.int 0, .int 0, .int 0, .int 0, .int 0, .int 100, .int 110, .int 97, .ref 0], hT g a (nI fr) (nI n) e44 tk44 pp44 w44 op44 1 (nI q44))) rfl trivial ?_
            refine P0.cd (d0 := 2) (as := [.ref 0, .int 97, .int 110, .int 100, .int 0, .int 0, .int 0, .int 0, .int 0]) (rest := []) (r1 := some (.int 0)) (h1 := hT g a (nI fr) (nI n) e44 tk44 pp44 w44 op44 1 (nI q44)) (st' := [.int 0]) GX11_isWord kX11_both4_17 rfl ⟨_, _, rfl, rfl, .inl ⟨_, _, _, _, rfl, rfl⟩⟩ (Nat.le_of_ble_eq_true rfl) (Nat.le_of_ble_eq_true rfl) (e_isWord_bad (c0 := 97) (c1 := 110) (c2 := 100) (c3 := 0) (c4 := 0) (c5 := 0) (c6 := 0) (c7 := 0)) (Nat.le_of_ble_eq_true rfl) rfl (Nat.le_of_ble_eq_true rfl) rfl ?_
            refine P0.b GX11_both4 2 (ob := []) (cf' := (50, [some (.ref 0), some (.int 0), some (.int v44)], [.int 0], hT g a (nI fr) (nI n) e44 tk44 pp44 w44 op44 1 (nI q44))) rfl trivial ?_
            exact P0.ri (by decide +kernel) rfl rfl (QP.no (pch_fail (show jBoth (sg (Bt (a 1) fr n) p) = true from by rw [h1]; decide) hR44) 0 e44 tk44 pp44 w44 op44)
          · refine P0.b GX11_both4 4 (ob := []) (cf' := (5, [some (.ref 0), some (.int 1), some (.int v44)], [], hT g a (nI fr) (nI n) e44 tk44 pp44 w44 op44 1 (nI q44))) rfl trivial ?_
            refine P0.b GX11_both4 9 (ob := []) (cf' := (17, [some (.ref 0), some (.int 1), some (.int v44)], [.int 0, .int 0, .int 0, .int 0, .int 0, .int 100, .int 110, .int 97, .ref 0], hT g a (nI fr) (nI n) e44 tk44 pp44 w44 op44 1 (nI q44))) rfl trivial ?_
            refine P0.cd (d0 := 2) (as := [.ref 0, .int 97, .int 110, .int 100, .int 0, .int 0, .int 0, .int 0, .int 0]) (rest := []) (r1 := some (.int 0)) (h1 := hT g a (nI fr) (nI n) e44 tk44 pp44 w44 op44 1 (nI q44)) (st' := [.int 0]) GX11_isWord kX11_both4_17 rfl ⟨_, _, rfl, rfl, .inl ⟨_, _, _, _, rfl, rfl⟩⟩ (Nat.le_of_ble_eq_true rfl) (Nat.le_of_ble_eq_true rfl) (e_isWord_bad (c0 := 97) (c1 := 110) (c2 := 100) (c3 := 0) (c4 := 0) (c5 := 0) (c6 := 0) (c7 := 0)) (Nat.le_of_ble_eq_true rfl) rfl (Nat.le_of_ble_eq_true rfl) rfl ?_
            refine P0.b GX11_both4 2 (ob := []) (cf' := (50, [some (.ref 0), some (.int 1), some (.int v44)], [.int 1], hT g a (nI fr) (nI n) e44 tk44 pp44 w44 op44 1 (nI q44))) rfl trivial ?_
            exact P0.ri (by decide +kernel) rfl rfl (QP.no (pch_fail (show jBoth (sg (Bt (a 1) fr n) p) = true from by rw [h1]; decide) hR44) 1 e44 tk44 pp44 w44 op44)
      · rw [hR44] at hq44
        obtain ⟨w44, fl44, rfl, rfl, hw44, hp44⟩ := hq44
        show P0 _ _ _ _ (31, [some (.ref 0), some (.int x), none], [.int x44], hT g a (nI fr) (nI n) (nI (en (Bt (a 1) fr n) p44)) (kd (Bt (a 1) fr n) p44) (nI p44) w44 op 0 fl44) _
        refine P0.b GX11_both4 3 (ob := []) (cf' := (if x = 0 then 44 else 36, [some (.ref 0), some (.int x), some (.int x44)], [], hT g a (nI fr) (nI n) (nI (en (Bt (a 1) fr n) p44)) (kd (Bt (a 1) fr n) p44) (nI p44) w44 op 0 fl44)) rfl trivial ?_
        refine P0.if (fun h4 => ?_) (fun h4 => ?_)
        · refine P0.b GX11_both4 3 (ob := []) (cf' := (5, [some (.ref 0), some (.int 0), some (.int x44)], [], hT g a (nI fr) (nI n) (nI (en (Bt (a 1) fr n) p44)) (kd (Bt (a 1) fr n) p44) (nI p44) w44 op 0 fl44)) rfl trivial ?_
          rw [pch_step (show jBoth (sg (Bt (a 1) fr n) p) = true from by rw [h1]; decide) hR44, show (vA g).2.2 (sg (Bt (a 1) fr n) p) x x44 = (0 : Int32) from by rw [h1]; simp [vA, vBn, h4]]
          refine P0.forget (ls' := [some (.ref 0), some (.int 0), none]) ⟨.inr rfl, .inr rfl, .inl rfl, trivial⟩ ?_
          exact lp_X11_both4 hT0 hop f _ _ _ _ hw44 hp44 (by have h1 := nx_lt (B := (Bt (a 1) fr n)) (p := p) (by rw [h1]; decide) (by rw [h1]; decide); have h2 := (prog_not' nx_lt (prog_lvl nx_lt (vA g) 0 0) (prog_lvl nx_lt (vA g) 0 1) (prog_lvl nx_lt (vA g) 0 2)) _ _ _ hR44; omega)
        · refine P0.b GX11_both4 2 (ob := []) (cf' := (if x44 = 0 then 44 else 40, [some (.ref 0), some (.int x), some (.int x44)], [], hT g a (nI fr) (nI n) (nI (en (Bt (a 1) fr n) p44)) (kd (Bt (a 1) fr n) p44) (nI p44) w44 op 0 fl44)) rfl trivial ?_
          refine P0.if (fun h5 => ?_) (fun h5 => ?_)
          · refine P0.b GX11_both4 3 (ob := []) (cf' := (5, [some (.ref 0), some (.int 0), some (.int x44)], [], hT g a (nI fr) (nI n) (nI (en (Bt (a 1) fr n) p44)) (kd (Bt (a 1) fr n) p44) (nI p44) w44 op 0 fl44)) rfl trivial ?_
            rw [pch_step (show jBoth (sg (Bt (a 1) fr n) p) = true from by rw [h1]; decide) hR44, show (vA g).2.2 (sg (Bt (a 1) fr n) p) x x44 = (0 : Int32) from by rw [h1]; simp [vA, vBn, h4, h5]]
            refine P0.forget (ls' := [some (.ref 0), some (.int 0), none]) ⟨.inr rfl, .inr rfl, .inl rfl, trivial⟩ ?_
            exact lp_X11_both4 hT0 hop f _ _ _ _ hw44 hp44 (by have h1 := nx_lt (B := (Bt (a 1) fr n)) (p := p) (by rw [h1]; decide) (by rw [h1]; decide); have h2 := (prog_not' nx_lt (prog_lvl nx_lt (vA g) 0 0) (prog_lvl nx_lt (vA g) 0 1) (prog_lvl nx_lt (vA g) 0 2)) _ _ _ hR44; omega)
          · refine P0.b GX11_both4 4 (ob := []) (cf' := (5, [some (.ref 0), some (.int 1), some (.int x44)], [], hT g a (nI fr) (nI n) (nI (en (Bt (a 1) fr n) p44)) (kd (Bt (a 1) fr n) p44) (nI p44) w44 op 0 fl44)) rfl trivial ?_
            rw [pch_step (show jBoth (sg (Bt (a 1) fr n) p) = true from by rw [h1]; decide) hR44, show (vA g).2.2 (sg (Bt (a 1) fr n) p) x x44 = (1 : Int32) from by rw [h1]; simp [vA, vBn, h4, h5]]
            refine P0.forget (ls' := [some (.ref 0), some (.int 1), none]) ⟨.inr rfl, .inr rfl, .inl rfl, trivial⟩ ?_
            exact lp_X11_both4 hT0 hop f _ _ _ _ hw44 hp44 (by have h1 := nx_lt (B := (Bt (a 1) fr n)) (p := p) (by rw [h1]; decide) (by rw [h1]; decide); have h2 := (prog_not' nx_lt (prog_lvl nx_lt (vA g) 0 0) (prog_lvl nx_lt (vA g) 0 1) (prog_lvl nx_lt (vA g) 0 2)) _ _ _ hR44; omega)
set_option maxHeartbeats 2000000 in
theorem e_X11_both4 {g : Nat → Int32} {a : Nat → Nat → Int32} {fr n : Nat} (hT0 : TxOK a fr n) {p : Nat} {w : Int64} {fl : Int32} (hw : wOK (Bt (a 1) fr n) p w) (hp : p ≤ n) {op : Int32} (hop : op = 4) : P0 14 0 0 mX11_both4 (0, ent 3 [.ref 0], [], hT g a (nI fr) (nI n) (nI (en (Bt (a 1) fr n) p)) (kd (Bt (a 1) fr n) p) (nI p) w op 0 fl) (QP g a fr n op (pboth (sg (Bt (a 1) fr n)) (nx (Bt (a 1) fr n)) (vA g) true (lvl (sg (Bt (a 1) fr n)) (nx (Bt (a 1) fr n)) (vA g) 0 0) (lvl (sg (Bt (a 1) fr n)) (nx (Bt (a 1) fr n)) (vA g) 0 1) (lvl (sg (Bt (a 1) fr n)) (nx (Bt (a 1) fr n)) (vA g) 0 2) p)) := by
  show P0 _ _ _ _ _ (QP g a fr n op (pc0 (sg (Bt (a 1) fr n)) (nx (Bt (a 1) fr n)) (vA g).2.2 jBoth (pnot (sg (Bt (a 1) fr n)) (nx (Bt (a 1) fr n)) (vA g) true (lvl (sg (Bt (a 1) fr n)) (nx (Bt (a 1) fr n)) (vA g) 0 0) (lvl (sg (Bt (a 1) fr n)) (nx (Bt (a 1) fr n)) (vA g) 0 1) (lvl (sg (Bt (a 1) fr n)) (nx (Bt (a 1) fr n)) (vA g) 0 2)) p))
  refine P0.b GX11_both4 1 (ob := []) (cf' := (1, [some (.ref 0), none, none], [.ref 0], hT g a (nI fr) (nI n) (nI (en (Bt (a 1) fr n) p)) (kd (Bt (a 1) fr n) p) (nI p) w op 0 fl)) rfl trivial ?_
  refine P0.cs (as := [.ref 0]) (rest := []) GX11_not4 kX11_both4_1 rfl ⟨_, _, rfl, rfl, .inl ⟨_, _, _, _, rfl, rfl⟩⟩ (Nat.le_of_ble_eq_true rfl) (Nat.le_of_ble_eq_true rfl) (P0.mono (e_X11_not4 hT0 hw hp (op := op) hop) (Nat.le_of_ble_eq_true rfl) (Nat.zero_le _) (Nat.zero_le _) (fun _ _ q => q)) (Nat.le_of_ble_eq_true rfl) (fun _ _ q => q.len) ?_
  rintro r1045 h1045 hq45
  have hq45 : QP g a fr n op (pnot (sg (Bt (a 1) fr n)) (nx (Bt (a 1) fr n)) (vA g) true (lvl (sg (Bt (a 1) fr n)) (nx (Bt (a 1) fr n)) (vA g) 0 0) (lvl (sg (Bt (a 1) fr n)) (nx (Bt (a 1) fr n)) (vA g) 0 1) (lvl (sg (Bt (a 1) fr n)) (nx (Bt (a 1) fr n)) (vA g) 0 2) p) r1045 h1045 := hq45
  rcases hR45 : pnot (sg (Bt (a 1) fr n)) (nx (Bt (a 1) fr n)) (vA g) true (lvl (sg (Bt (a 1) fr n)) (nx (Bt (a 1) fr n)) (vA g) 0 0) (lvl (sg (Bt (a 1) fr n)) (nx (Bt (a 1) fr n)) (vA g) 0 1) (lvl (sg (Bt (a 1) fr n)) (nx (Bt (a 1) fr n)) (vA g) 0 2) p with q45 | ⟨x45, p45⟩
  · rw [hR45] at hq45
    obtain ⟨v45, e45, tk45, pp45, w45, op45, rfl, rfl⟩ := hq45
    show P0 _ _ _ _ (4, [some (.ref 0), none, none], [.int v45], hT g a (nI fr) (nI n) e45 tk45 pp45 w45 op45 1 (nI q45)) _
    refine P0.b GX11_both4 1 (ob := []) (cf' := (5, [some (.ref 0), some (.int v45), none], [], hT g a (nI fr) (nI n) e45 tk45 pp45 w45 op45 1 (nI q45))) rfl trivial ?_
    refine P0.b GX11_both4 9 (ob := []) (cf' := (17, [some (.ref 0), some (.int v45), none], [.int 0, .int 0, .int 0, .int 0, .int 0, .int 100, .int 110, .int 97, .ref 0], hT g a (nI fr) (nI n) e45 tk45 pp45 w45 op45 1 (nI q45))) rfl trivial ?_
    refine P0.cd (d0 := 2) (as := [.ref 0, .int 97, .int 110, .int 100, .int 0, .int 0, .int 0, .int 0, .int 0]) (rest := []) (r1 := some (.int 0)) (h1 := hT g a (nI fr) (nI n) e45 tk45 pp45 w45 op45 1 (nI q45)) (st' := [.int 0]) GX11_isWord kX11_both4_17 rfl ⟨_, _, rfl, rfl, .inl ⟨_, _, _, _, rfl, rfl⟩⟩ (Nat.le_of_ble_eq_true rfl) (Nat.le_of_ble_eq_true rfl) (e_isWord_bad (c0 := 97) (c1 := 110) (c2 := 100) (c3 := 0) (c4 := 0) (c5 := 0) (c6 := 0) (c7 := 0)) (Nat.le_of_ble_eq_true rfl) rfl (Nat.le_of_ble_eq_true rfl) rfl ?_
    refine P0.b GX11_both4 2 (ob := []) (cf' := (50, [some (.ref 0), some (.int v45), none], [.int v45], hT g a (nI fr) (nI n) e45 tk45 pp45 w45 op45 1 (nI q45))) rfl trivial ?_
    exact P0.ri (by decide +kernel) rfl rfl (QP.no (pc0_no hR45) v45 e45 tk45 pp45 w45 op45)
  · rw [hR45] at hq45
    obtain ⟨w45, fl45, rfl, rfl, hw45, hp45⟩ := hq45
    show P0 _ _ _ _ (4, [some (.ref 0), none, none], [.int x45], hT g a (nI fr) (nI n) (nI (en (Bt (a 1) fr n) p45)) (kd (Bt (a 1) fr n) p45) (nI p45) w45 op 0 fl45) _
    refine P0.b GX11_both4 1 (ob := []) (cf' := (5, [some (.ref 0), some (.int x45), none], [], hT g a (nI fr) (nI n) (nI (en (Bt (a 1) fr n) p45)) (kd (Bt (a 1) fr n) p45) (nI p45) w45 op 0 fl45)) rfl trivial ?_
    rw [pc0_yes hR45]
    exact lp_X11_both4 hT0 hop 200 _ _ _ _ hw45 hp45 (by have := hT0.2.1; omega)
set_option maxHeartbeats 2000000 in
theorem lp_X11_either4 {g : Nat → Int32} {a : Nat → Nat → Int32} {fr n : Nat} (hT0 : TxOK a fr n) {op : Int32} (hop : op = 4) : ∀ (f : Nat) (x : Int32) (p : Nat) (w : Int64) (fl : Int32), wOK (Bt (a 1) fr n) p w → p ≤ n → n ≤ p + f → P0 15 0 0 mX11_either4 (5, [some (.ref 0), some (.int x), none], [], hT g a (nI fr) (nI n) (nI (en (Bt (a 1) fr n) p)) (kd (Bt (a 1) fr n) p) (nI p) w op 0 fl) (QP g a fr n op (pch (sg (Bt (a 1) fr n)) (nx (Bt (a 1) fr n)) (vA g).2.2 jEith (pboth (sg (Bt (a 1) fr n)) (nx (Bt (a 1) fr n)) (vA g) true (lvl (sg (Bt (a 1) fr n)) (nx (Bt (a 1) fr n)) (vA g) 0 0) (lvl (sg (Bt (a 1) fr n)) (nx (Bt (a 1) fr n)) (vA g) 0 1) (lvl (sg (Bt (a 1) fr n)) (nx (Bt (a 1) fr n)) (vA g) 0 2)) f x p))
  | 0, x, p, w, fl, hw, hp, hpf => by
    refine P0.b GX11_either4 9 (ob := []) (cf' := (16, [some (.ref 0), some (.int x), none], [.int 0, .int 0, .int 0, .int 0, .int 0, .int 0, .int 114, .int 111, .ref 0], hT g a (nI fr) (nI n) (nI (en (Bt (a 1) fr n) p)) (kd (Bt (a 1) fr n) p) (nI p) w op 0 fl)) rfl trivial ?_
    refine P0.cd (d0 := 2) (as := [.ref 0, .int 111, .int 114, .int 0, .int 0, .int 0, .int 0, .int 0, .int 0]) (rest := []) (r1 := some (.int (if sg (Bt (a 1) fr n) p = (-10) then 1 else 0))) (h1 := hT g a (nI fr) (nI n) (nI (en (Bt (a 1) fr n) p)) (kd (Bt (a 1) fr n) p) (nI p) w op 0 fl) (st' := [.int (if sg (Bt (a 1) fr n) p = (-10) then 1 else 0)]) GX11_isWord kX11_either4_16 rfl ⟨_, _, rfl, rfl, .inl ⟨_, _, _, _, rfl, rfl⟩⟩ (Nat.le_of_ble_eq_true rfl) (Nat.le_of_ble_eq_true rfl) (e_isWord_ok hT0 hp (cs := [111, 114]) (code := (-10)) (by decide +kernel) (by decide) (by decide)) (Nat.le_of_ble_eq_true rfl) rfl (Nat.le_of_ble_eq_true rfl) rfl ?_
    refine P0.b GX11_either4 1 (ob := []) (cf' := (if (if sg (Bt (a 1) fr n) p = (-10) then 1 else 0) = 0 then 48 else 22, [some (.ref 0), some (.int x), none], [], hT g a (nI fr) (nI n) (nI (en (Bt (a 1) fr n) p)) (kd (Bt (a 1) fr n) p) (nI p) w op 0 fl)) rfl trivial ?_
    rw [if_neg (show ¬ (sg (Bt (a 1) fr n) p = (-10)) from by rw [sg_end hpf]; decide), if_pos rfl]
    refine P0.b GX11_either4 1 (ob := []) (cf' := (49, [some (.ref 0), some (.int x), none], [.int x], hT g a (nI fr) (nI n) (nI (en (Bt (a 1) fr n) p)) (kd (Bt (a 1) fr n) p) (nI p) w op 0 fl)) rfl trivial ?_
    exact P0.ri (by decide +kernel) rfl rfl (QP.yes rfl hw hp)
  | f + 1, x, p, w, fl, hw, hp, hpf => by
    refine P0.b GX11_either4 9 (ob := []) (cf' := (16, [some (.ref 0), some (.int x), none], [.int 0, .int 0, .int 0, .int 0, .int 0, .int 0, .int 114, .int 111, .ref 0], hT g a (nI fr) (nI n) (nI (en (Bt (a 1) fr n) p)) (kd (Bt (a 1) fr n) p) (nI p) w op 0 fl)) rfl trivial ?_
    refine P0.cd (d0 := 2) (as := [.ref 0, .int 111, .int 114, .int 0, .int 0, .int 0, .int 0, .int 0, .int 0]) (rest := []) (r1 := some (.int (if sg (Bt (a 1) fr n) p = (-10) then 1 else 0))) (h1 := hT g a (nI fr) (nI n) (nI (en (Bt (a 1) fr n) p)) (kd (Bt (a 1) fr n) p) (nI p) w op 0 fl) (st' := [.int (if sg (Bt (a 1) fr n) p = (-10) then 1 else 0)]) GX11_isWord kX11_either4_16 rfl ⟨_, _, rfl, rfl, .inl ⟨_, _, _, _, rfl, rfl⟩⟩ (Nat.le_of_ble_eq_true rfl) (Nat.le_of_ble_eq_true rfl) (e_isWord_ok hT0 hp (cs := [111, 114]) (code := (-10)) (by decide +kernel) (by decide) (by decide)) (Nat.le_of_ble_eq_true rfl) rfl (Nat.le_of_ble_eq_true rfl) rfl ?_
    refine P0.b GX11_either4 1 (ob := []) (cf' := (if (if sg (Bt (a 1) fr n) p = (-10) then 1 else 0) = 0 then 48 else 22, [some (.ref 0), some (.int x), none], [], hT g a (nI fr) (nI n) (nI (en (Bt (a 1) fr n) p)) (kd (Bt (a 1) fr n) p) (nI p) w op 0 fl)) rfl trivial ?_
    refine P0.ifB (fun h1 => ?_) (fun h1 => ?_)
    · refine P0.b GX11_either4 1 (ob := []) (cf' := (49, [some (.ref 0), some (.int x), none], [.int x], hT g a (nI fr) (nI n) (nI (en (Bt (a 1) fr n) p)) (kd (Bt (a 1) fr n) p) (nI p) w op 0 fl)) rfl trivial ?_
      exact P0.ri (by decide +kernel) rfl rfl (QP.yes (pch_stop (show jEith (sg (Bt (a 1) fr n) p) = false from by simp only [jEith]; exact decide_eq_false h1)) hw hp)
    · refine P0.b GX11_either4 1 (ob := []) (cf' := (23, [some (.ref 0), some (.int x), none], [.ref 0], hT g a (nI fr) (nI n) (nI (en (Bt (a 1) fr n) p)) (kd (Bt (a 1) fr n) p) (nI p) w op 0 fl)) rfl trivial ?_
      refine P0.cs (as := [.ref 0]) (rest := []) GX11_nextToken kX11_either4_23 rfl ⟨_, _, rfl, rfl, .inl ⟨_, _, _, _, rfl, rfl⟩⟩ (Nat.le_of_ble_eq_true rfl) (Nat.le_of_ble_eq_true rfl) (P0.mono (e_X11_nextToken hT0 (en (Bt (a 1) fr n) p) (en_le hp) _ _ _ _ _ _) (Nat.le_of_ble_eq_true rfl) (Nat.zero_le _) (Nat.zero_le _) (fun _ _ q => q)) (Nat.le_of_ble_eq_true rfl) (fun _ _ q => q.len) ?_
      rintro _ _ ⟨w46, rfl, rfl, hw46⟩
      have hp46 := nx_le (f := a 1) (fr := fr) hp
      show P0 _ _ _ _ (26, [some (.ref 0), some (.int x), none], [], hT g a (nI fr) (nI n) (nI (en (Bt (a 1) fr n) (nx (Bt (a 1) fr n) p))) (kd (Bt (a 1) fr n) (nx (Bt (a 1) fr n) p)) (nI (nx (Bt (a 1) fr n) p)) w46 op 0 fl) _
      refine P0.b GX11_either4 1 (ob := []) (cf' := (27, [some (.ref 0), some (.int x), none], [.ref 0], hT g a (nI fr) (nI n) (nI (en (Bt (a 1) fr n) (nx (Bt (a 1) fr n) p))) (kd (Bt (a 1) fr n) (nx (Bt (a 1) fr n) p)) (nI (nx (Bt (a 1) fr n) p)) w46 op 0 fl)) rfl trivial ?_
      refine P0.cs (as := [.ref 0]) (rest := []) GX11_both4 kX11_either4_27 rfl ⟨_, _, rfl, rfl, .inl ⟨_, _, _, _, rfl, rfl⟩⟩ (Nat.le_of_ble_eq_true rfl) (Nat.le_of_ble_eq_true rfl) (P0.mono (e_X11_both4 hT0 hw46 hp46 (op := op) hop) (Nat.le_of_ble_eq_true rfl) (Nat.zero_le _) (Nat.zero_le _) (fun _ _ q => q)) (Nat.le_of_ble_eq_true rfl) (fun _ _ q => q.len) ?_
      rintro r1047 h1047 hq47
      have hq47 : QP g a fr n op (pboth (sg (Bt (a 1) fr n)) (nx (Bt (a 1) fr n)) (vA g) true (lvl (sg (Bt (a 1) fr n)) (nx (Bt (a 1) fr n)) (vA g) 0 0) (lvl (sg (Bt (a 1) fr n)) (nx (Bt (a 1) fr n)) (vA g) 0 1) (lvl (sg (Bt (a 1) fr n)) (nx (Bt (a 1) fr n)) (vA g) 0 2) (nx (Bt (a 1) fr n) p)) r1047 h1047 := hq47
      rcases hR47 : pboth (sg (Bt (a 1) fr n)) (nx (Bt (a 1) fr n)) (vA g) true (lvl (sg (Bt (a 1) fr n)) (nx (Bt (a 1) fr n)) (vA g) 0 0) (lvl (sg (Bt (a 1) fr n)) (nx (Bt (a 1) fr n)) (vA g) 0 1) (lvl (sg (Bt (a 1) fr n)) (nx (Bt (a 1) fr n)) (vA g) 0 2) (nx (Bt (a 1) fr n) p) with q47 | ⟨x47, p47⟩
      · rw [hR47] at hq47
        obtain ⟨v47, e47, tk47, pp47, w47, op47, rfl, rfl⟩ := hq47
        show P0 _ _ _ _ (30, [some (.ref 0), some (.int x), none], [.int v47], hT g a (nI fr) (nI n) e47 tk47 pp47 w47 op47 1 (nI q47)) _
        refine P0.b GX11_either4 3 (ob := []) (cf' := (if x = 0 then 35 else 39, [some (.ref 0), some (.int x), some (.int v47)], [], hT g a (nI fr) (nI n) e47 tk47 pp47 w47 op47 1 (nI q47))) rfl trivial ?_
        refine P0.if (fun h2 => ?_) (fun h2 => ?_)
        · refine P0.b GX11_either4 2 (ob := []) (cf' := (if v47 = 0 then 43 else 39, [some (.ref 0), some (.int x), some (.int v47)], [], hT g a (nI fr) (nI n) e47 tk47 pp47 w47 op47 1 (nI q47))) rfl trivial ?_
          refine P0.if (fun h3 => ?_) (fun h3 => ?_)
          · refine P0.b GX11_either4 3 (ob := []) (cf' := (5, [some (.ref 0), some (.int 0), some (.int v47)], [], hT g a (nI fr) (nI n) e47 tk47 pp47 w47 op47 1 (nI q47))) rfl trivial ?_
            refine P0.b GX11_either4 9 (ob := []) (cf' := (16, [some (.ref 0), some (.int 0), some (.int v47)], [.int 0, .int 0, .int 0, .int 0, .int 0, .int 0, .int 114, .int 111, .ref 0], hT g a (nI fr) (nI n) e47 tk47 pp47 w47 op47 1 (nI q47))) rfl trivial ?_
            refine P0.cd (d0 := 2) (as := [.ref 0, .int 111, .int 114, .int 0, .int 0, .int 0, .int 0, .int 0, .int 0]) (rest := []) (r1 := some (.int 0)) (h1 := hT g a (nI fr) (nI n) e47 tk47 pp47 w47 op47 1 (nI q47)) (st' := [.int 0]) GX11_isWord kX11_either4_16 rfl ⟨_, _, rfl, rfl, .inl ⟨_, _, _, _, rfl, rfl⟩⟩ (Nat.le_of_ble_eq_true rfl) (Nat.le_of_ble_eq_true rfl) (e_isWord_bad (c0 := 111) (c1 := 114) (c2 := 0) (c3 := 0) (c4 := 0) (c5 := 0) (c6 := 0) (c7 := 0)) (Nat.le_of_ble_eq_true rfl) rfl (Nat.le_of_ble_eq_true rfl) rfl ?_
            refine P0.b GX11_either4 2 (ob := []) (cf' := (49, [some (.ref 0), some (.int 0), some (.int v47)], [.int 0], hT g a (nI fr) (nI n) e47 tk47 pp47 w47 op47 1 (nI q47))) rfl trivial ?_
            exact P0.ri (by decide +kernel) rfl rfl (QP.no (pch_fail (show jEith (sg (Bt (a 1) fr n) p) = true from by rw [h1]; decide) hR47) 0 e47 tk47 pp47 w47 op47)
          · refine P0.b GX11_either4 4 (ob := []) (cf' := (5, [some (.ref 0), some (.int 1), some (.int v47)], [], hT g a (nI fr) (nI n) e47 tk47 pp47 w47 op47 1 (nI q47))) rfl trivial ?_
            refine P0.b GX11_either4 9 (ob := []) (cf' := (16, [some (.ref 0), some (.int 1), some (.int v47)], [.int 0, .int 0, .int 0, .int 0, .int 0, .int 0, .int 114, .int 111, .ref 0], hT g a (nI fr) (nI n) e47 tk47 pp47 w47 op47 1 (nI q47))) rfl trivial ?_
            refine P0.cd (d0 := 2) (as := [.ref 0, .int 111, .int 114, .int 0, .int 0, .int 0, .int 0, .int 0, .int 0]) (rest := []) (r1 := some (.int 0)) (h1 := hT g a (nI fr) (nI n) e47 tk47 pp47 w47 op47 1 (nI q47)) (st' := [.int 0]) GX11_isWord kX11_either4_16 rfl ⟨_, _, rfl, rfl, .inl ⟨_, _, _, _, rfl, rfl⟩⟩ (Nat.le_of_ble_eq_true rfl) (Nat.le_of_ble_eq_true rfl) (e_isWord_bad (c0 := 111) (c1 := 114) (c2 := 0) (c3 := 0) (c4 := 0) (c5 := 0) (c6 := 0) (c7 := 0)) (Nat.le_of_ble_eq_true rfl) rfl (Nat.le_of_ble_eq_true rfl) rfl ?_
            refine P0.b GX11_either4 2 (ob := []) (cf' := (49, [some (.ref 0), some (.int 1), some (.int v47)], [.int 1], hT g a (nI fr) (nI n) e47 tk47 pp47 w47 op47 1 (nI q47))) rfl trivial ?_
            exact P0.ri (by decide +kernel) rfl rfl (QP.no (pch_fail (show jEith (sg (Bt (a 1) fr n) p) = true from by rw [h1]; decide) hR47) 1 e47 tk47 pp47 w47 op47)
        · refine P0.b GX11_either4 4 (ob := []) (cf' := (5, [some (.ref 0), some (.int 1), some (.int v47)], [], hT g a (nI fr) (nI n) e47 tk47 pp47 w47 op47 1 (nI q47))) rfl trivial ?_
          refine P0.b GX11_either4 9 (ob := []) (cf' := (16, [some (.ref 0), some (.int 1), some (.int v47)], [.int 0, .int 0, .int 0, .int 0, .int 0, .int 0, .int 114, .int 111, .ref 0], hT g a (nI fr) (nI n) e47 tk47 pp47 w47 op47 1 (nI q47))) rfl trivial ?_
          refine P0.cd (d0 := 2) (as := [.ref 0, .int 111, .int 114, .int 0, .int 0, .int 0, .int 0, .int 0, .int 0]) (rest := []) (r1 := some (.int 0)) (h1 := hT g a (nI fr) (nI n) e47 tk47 pp47 w47 op47 1 (nI q47)) (st' := [.int 0]) GX11_isWord kX11_either4_16 rfl ⟨_, _, rfl, rfl, .inl ⟨_, _, _, _, rfl, rfl⟩⟩ (Nat.le_of_ble_eq_true rfl) (Nat.le_of_ble_eq_true rfl) (e_isWord_bad (c0 := 111) (c1 := 114) (c2 := 0) (c3 := 0) (c4 := 0) (c5 := 0) (c6 := 0) (c7 := 0)) (Nat.le_of_ble_eq_true rfl) rfl (Nat.le_of_ble_eq_true rfl) rfl ?_
          refine P0.b GX11_either4 2 (ob := []) (cf' := (49, [some (.ref 0), some (.int 1), some (.int v47)], [.int 1], hT g a (nI fr) (nI n) e47 tk47 pp47 w47 op47 1 (nI q47))) rfl trivial ?_
          exact P0.ri (by decide +kernel) rfl rfl (QP.no (pch_fail (show jEith (sg (Bt (a 1) fr n) p) = true from by rw [h1]; decide) hR47) 1 e47 tk47 pp47 w47 op47)
      · rw [hR47] at hq47
        obtain ⟨w47, fl47, rfl, rfl, hw47, hp47⟩ := hq47
        show P0 _ _ _ _ (30, [some (.ref 0), some (.int x), none], [.int x47], hT g a (nI fr) (nI n) (nI (en (Bt (a 1) fr n) p47)) (kd (Bt (a 1) fr n) p47) (nI p47) w47 op 0 fl47) _
        refine P0.b GX11_either4 3 (ob := []) (cf' := (if x = 0 then 35 else 39, [some (.ref 0), some (.int x), some (.int x47)], [], hT g a (nI fr) (nI n) (nI (en (Bt (a 1) fr n) p47)) (kd (Bt (a 1) fr n) p47) (nI p47) w47 op 0 fl47)) rfl trivial ?_
        refine P0.if (fun h4 => ?_) (fun h4 => ?_)
        · refine P0.b GX11_either4 2 (ob := []) (cf' := (if x47 = 0 then 43 else 39, [some (.ref 0), some (.int x), some (.int x47)], [], hT g a (nI fr) (nI n) (nI (en (Bt (a 1) fr n) p47)) (kd (Bt (a 1) fr n) p47) (nI p47) w47 op 0 fl47)) rfl trivial ?_
          refine P0.if (fun h5 => ?_) (fun h5 => ?_)
          · refine P0.b GX11_either4 3 (ob := []) (cf' := (5, [some (.ref 0), some (.int 0), some (.int x47)], [], hT g a (nI fr) (nI n) (nI (en (Bt (a 1) fr n) p47)) (kd (Bt (a 1) fr n) p47) (nI p47) w47 op 0 fl47)) rfl trivial ?_
            rw [pch_step (show jEith (sg (Bt (a 1) fr n) p) = true from by rw [h1]; decide) hR47, show (vA g).2.2 (sg (Bt (a 1) fr n) p) x x47 = (0 : Int32) from by rw [h1]; simp [vA, vBn, h4, h5]]
            refine P0.forget (ls' := [some (.ref 0), some (.int 0), none]) ⟨.inr rfl, .inr rfl, .inl rfl, trivial⟩ ?_
            exact lp_X11_either4 hT0 hop f _ _ _ _ hw47 hp47 (by have h1 := nx_lt (B := (Bt (a 1) fr n)) (p := p) (by rw [h1]; decide) (by rw [h1]; decide); have h2 := (prog_c0 nx_lt jB_ok (prog_not' nx_lt (prog_lvl nx_lt (vA g) 0 0) (prog_lvl nx_lt (vA g) 0 1) (prog_lvl nx_lt (vA g) 0 2))) _ _ _ hR47; omega)
          · refine P0.b GX11_either4 4 (ob := []) (cf' := (5, [some (.ref 0), some (.int 1), some (.int x47)], [], hT g a (nI fr) (nI n) (nI (en (Bt (a 1) fr n) p47)) (kd (Bt (a 1) fr n) p47) (nI p47) w47 op 0 fl47)) rfl trivial ?_
            rw [pch_step (show jEith (sg (Bt (a 1) fr n) p) = true from by rw [h1]; decide) hR47, show (vA g).2.2 (sg (Bt (a 1) fr n) p) x x47 = (1 : Int32) from by rw [h1]; simp [vA, vBn, h4, h5]]
            refine P0.forget (ls' := [some (.ref 0), some (.int 1), none]) ⟨.inr rfl, .inr rfl, .inl rfl, trivial⟩ ?_
            exact lp_X11_either4 hT0 hop f _ _ _ _ hw47 hp47 (by have h1 := nx_lt (B := (Bt (a 1) fr n)) (p := p) (by rw [h1]; decide) (by rw [h1]; decide); have h2 := (prog_c0 nx_lt jB_ok (prog_not' nx_lt (prog_lvl nx_lt (vA g) 0 0) (prog_lvl nx_lt (vA g) 0 1) (prog_lvl nx_lt (vA g) 0 2))) _ _ _ hR47; omega)
        · refine P0.b GX11_either4 4 (ob := []) (cf' := (5, [some (.ref 0), some (.int 1), some (.int x47)], [], hT g a (nI fr) (nI n) (nI (en (Bt (a 1) fr n) p47)) (kd (Bt (a 1) fr n) p47) (nI p47) w47 op 0 fl47)) rfl trivial ?_
          rw [pch_step (show jEith (sg (Bt (a 1) fr n) p) = true from by rw [h1]; decide) hR47, show (vA g).2.2 (sg (Bt (a 1) fr n) p) x x47 = (1 : Int32) from by rw [h1]; simp [vA, vBn, h4]]
          refine P0.forget (ls' := [some (.ref 0), some (.int 1), none]) ⟨.inr rfl, .inr rfl, .inl rfl, trivial⟩ ?_
          exact lp_X11_either4 hT0 hop f _ _ _ _ hw47 hp47 (by have h1 := nx_lt (B := (Bt (a 1) fr n)) (p := p) (by rw [h1]; decide) (by rw [h1]; decide); have h2 := (prog_c0 nx_lt jB_ok (prog_not' nx_lt (prog_lvl nx_lt (vA g) 0 0) (prog_lvl nx_lt (vA g) 0 1) (prog_lvl nx_lt (vA g) 0 2))) _ _ _ hR47; omega)
set_option maxHeartbeats 2000000 in
theorem e_X11_either4 {g : Nat → Int32} {a : Nat → Nat → Int32} {fr n : Nat} (hT0 : TxOK a fr n) {p : Nat} {w : Int64} {fl : Int32} (hw : wOK (Bt (a 1) fr n) p w) (hp : p ≤ n) {op : Int32} (hop : op = 4) : P0 15 0 0 mX11_either4 (0, ent 3 [.ref 0], [], hT g a (nI fr) (nI n) (nI (en (Bt (a 1) fr n) p)) (kd (Bt (a 1) fr n) p) (nI p) w op 0 fl) (QP g a fr n op (lvl (sg (Bt (a 1) fr n)) (nx (Bt (a 1) fr n)) (vA g) 1 0 p)) := by
  show P0 _ _ _ _ _ (QP g a fr n op (pc0 (sg (Bt (a 1) fr n)) (nx (Bt (a 1) fr n)) (vA g).2.2 jEith (pboth (sg (Bt (a 1) fr n)) (nx (Bt (a 1) fr n)) (vA g) true (lvl (sg (Bt (a 1) fr n)) (nx (Bt (a 1) fr n)) (vA g) 0 0) (lvl (sg (Bt (a 1) fr n)) (nx (Bt (a 1) fr n)) (vA g) 0 1) (lvl (sg (Bt (a 1) fr n)) (nx (Bt (a 1) fr n)) (vA g) 0 2)) p))
  refine P0.b GX11_either4 1 (ob := []) (cf' := (1, [some (.ref 0), none, none], [.ref 0], hT g a (nI fr) (nI n) (nI (en (Bt (a 1) fr n) p)) (kd (Bt (a 1) fr n) p) (nI p) w op 0 fl)) rfl trivial ?_
  refine P0.cs (as := [.ref 0]) (rest := []) GX11_both4 kX11_either4_1 rfl ⟨_, _, rfl, rfl, .inl ⟨_, _, _, _, rfl, rfl⟩⟩ (Nat.le_of_ble_eq_true rfl) (Nat.le_of_ble_eq_true rfl) (P0.mono (e_X11_both4 hT0 hw hp (op := op) hop) (Nat.le_of_ble_eq_true rfl) (Nat.zero_le _) (Nat.zero_le _) (fun _ _ q => q)) (Nat.le_of_ble_eq_true rfl) (fun _ _ q => q.len) ?_
  rintro r1048 h1048 hq48
  have hq48 : QP g a fr n op (pboth (sg (Bt (a 1) fr n)) (nx (Bt (a 1) fr n)) (vA g) true (lvl (sg (Bt (a 1) fr n)) (nx (Bt (a 1) fr n)) (vA g) 0 0) (lvl (sg (Bt (a 1) fr n)) (nx (Bt (a 1) fr n)) (vA g) 0 1) (lvl (sg (Bt (a 1) fr n)) (nx (Bt (a 1) fr n)) (vA g) 0 2) p) r1048 h1048 := hq48
  rcases hR48 : pboth (sg (Bt (a 1) fr n)) (nx (Bt (a 1) fr n)) (vA g) true (lvl (sg (Bt (a 1) fr n)) (nx (Bt (a 1) fr n)) (vA g) 0 0) (lvl (sg (Bt (a 1) fr n)) (nx (Bt (a 1) fr n)) (vA g) 0 1) (lvl (sg (Bt (a 1) fr n)) (nx (Bt (a 1) fr n)) (vA g) 0 2) p with q48 | ⟨x48, p48⟩
  · rw [hR48] at hq48
    obtain ⟨v48, e48, tk48, pp48, w48, op48, rfl, rfl⟩ := hq48
    show P0 _ _ _ _ (4, [some (.ref 0), none, none], [.int v48], hT g a (nI fr) (nI n) e48 tk48 pp48 w48 op48 1 (nI q48)) _
    refine P0.b GX11_either4 1 (ob := []) (cf' := (5, [some (.ref 0), some (.int v48), none], [], hT g a (nI fr) (nI n) e48 tk48 pp48 w48 op48 1 (nI q48))) rfl trivial ?_
    refine P0.b GX11_either4 9 (ob := []) (cf' := (16, [some (.ref 0), some (.int v48), none], [.int 0, .int 0, .int 0, .int 0, .int 0, .int 0, .int 114, .int 111, .ref 0], hT g a (nI fr) (nI n) e48 tk48 pp48 w48 op48 1 (nI q48))) rfl trivial ?_
    refine P0.cd (d0 := 2) (as := [.ref 0, .int 111, .int 114, .int 0, .int 0, .int 0, .int 0, .int 0, .int 0]) (rest := []) (r1 := some (.int 0)) (h1 := hT g a (nI fr) (nI n) e48 tk48 pp48 w48 op48 1 (nI q48)) (st' := [.int 0]) GX11_isWord kX11_either4_16 rfl ⟨_, _, rfl, rfl, .inl ⟨_, _, _, _, rfl, rfl⟩⟩ (Nat.le_of_ble_eq_true rfl) (Nat.le_of_ble_eq_true rfl) (e_isWord_bad (c0 := 111) (c1 := 114) (c2 := 0) (c3 := 0) (c4 := 0) (c5 := 0) (c6 := 0) (c7 := 0)) (Nat.le_of_ble_eq_true rfl) rfl (Nat.le_of_ble_eq_true rfl) rfl ?_
    refine P0.b GX11_either4 2 (ob := []) (cf' := (49, [some (.ref 0), some (.int v48), none], [.int v48], hT g a (nI fr) (nI n) e48 tk48 pp48 w48 op48 1 (nI q48))) rfl trivial ?_
    exact P0.ri (by decide +kernel) rfl rfl (QP.no (pc0_no hR48) v48 e48 tk48 pp48 w48 op48)
  · rw [hR48] at hq48
    obtain ⟨w48, fl48, rfl, rfl, hw48, hp48⟩ := hq48
    show P0 _ _ _ _ (4, [some (.ref 0), none, none], [.int x48], hT g a (nI fr) (nI n) (nI (en (Bt (a 1) fr n) p48)) (kd (Bt (a 1) fr n) p48) (nI p48) w48 op 0 fl48) _
    refine P0.b GX11_either4 1 (ob := []) (cf' := (5, [some (.ref 0), some (.int x48), none], [], hT g a (nI fr) (nI n) (nI (en (Bt (a 1) fr n) p48)) (kd (Bt (a 1) fr n) p48) (nI p48) w48 op 0 fl48)) rfl trivial ?_
    rw [pc0_yes hR48]
    exact lp_X11_either4 hT0 hop 200 _ _ _ _ hw48 hp48 (by have := hT0.2.1; omega)
