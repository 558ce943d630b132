/-! ===== laid by program (wip/tools) ===== -/
set_option maxHeartbeats 1000000 in
theorem e_X11_firstOther {g z : Nat → Int32} {w : Int64} {a b : Nat → Nat → Int32} {t sh x : Nat} (hr : g 4 = nI t) (hS : Std1 a t) (hsh : sh < 4) (hx : WOK a (nI x)) : P0 45 0 0 mX11_firstOther (0, ent 4 [.ref 0, .int (nI sh), .int (nI x)], [], hC g z w a b) (fun r h' => ∃ z' w', r = some (.int (firV a t (g 7) sh x)) ∧ h' = hC g z' w' a b) := by
  refine P0.b GX11_firstOther 2 (ob := []) (cf' := (2, [some (.ref 0), some (.int (nI sh)), some (.int (nI x)), some (.int 0)], [], hC g z w a b)) rfl trivial ?_
  refine P0.loopEZ (N := 6) (fun s => othB a t (g 7) sh x s = true) (fun _ u => u) () (fun x65 v65 z65 w65 => (2, [some (.ref 0), some (.int (nI sh)), some (.int (nI x)), some (.int x65)], [], hC g z65 w65 a b)) (fun i65 hi65 hp65 z65 w65 hk65 => ?_) (fun hp65 z65 w65 => ?_) 0 () z w nI_0.symm rfl
  · show P0 _ _ _ _ (2, [some (.ref 0), some (.int (nI sh)), some (.int (nI x)), some (.int (nI i65))], [], hC g z65 w65 a b) _
    refine P0.b GX11_firstOther 3 (ob := []) (cf' := (if 6 ≤ nI i65 then 36 else 8, [some (.ref 0), some (.int (nI sh)), some (.int (nI x)), some (.int (nI i65))], [], hC g z65 w65 a b)) rfl trivial ?_
    rw [if_neg (show ¬ (6 ≤ nI i65) from nI_ge hi65 (by decide))]
    refine P0.b GX11_firstOther 3 (ob := []) (cf' := (11, [some (.ref 0), some (.int (nI sh)), some (.int (nI x)), some (.int (nI i65))], [.int (nI i65), .int (nI x), .ref 0], hC g z65 w65 a b)) rfl trivial ?_
    refine P0.cs (as := [.ref 0, .int (nI x), .int (nI i65)]) (rest := []) GX11_saysNow kX11_firstOther_11 rfl ⟨_, _, rfl, rfl, .inl ⟨_, _, _, _, rfl, rfl⟩⟩ (Nat.le_of_ble_eq_true rfl) (Nat.le_of_ble_eq_true rfl) (P0.mono (e_X11_saysNow hr hS hx (row4 hi65) (row4' hi65)) (Nat.le_of_ble_eq_true rfl) (Nat.zero_le _) (Nat.zero_le _) (fun _ _ q => q)) (Nat.le_of_ble_eq_true rfl) (fun _ _ ⟨_, _, _, q⟩ => q ▸ rfl) ?_
    rintro _ _ ⟨z66, w66, rfl, rfl⟩
    show P0 _ _ _ _ (14, [some (.ref 0), some (.int (nI sh)), some (.int (nI x)), some (.int (nI i65))], [.int (nowV a t (g 7) (nI x) (nI i65))], hC g z66 w66 a b) _
    refine P0.b GX11_firstOther 9 (ob := [vp_in ((40 * (nI sh)) + (nI i65)) 160]) (cf' := (if nowV a t (g 7) (nI x) (nI i65) = (a 17) ((40 * (nI sh)) + (nI i65)).toNatClampNeg then 30 else 28, [some (.ref 0), some (.int (nI sh)), some (.int (nI x)), some (.int (nI i65))], [], hC g z66 w66 a b)) rfl ⟨(it_in hsh (by omega)), trivial⟩ ?_
    refine P0.if (fun h1 => ?_) (fun h1 => ?_)
    · refine P0.b GX11_firstOther 2 (ob := []) (cf' := (2, [some (.ref 0), some (.int (nI sh)), some (.int (nI x)), some (.int ((nI i65) + 1))], [], hC g z66 w66 a b)) rfl trivial ?_
      exact hk65 _ () z66 w66 (oth_a h1) (nI_1 _) rfl
    · refine P0.b GX11_firstOther 1 (ob := []) (cf' := (29, [some (.ref 0), some (.int (nI sh)), some (.int (nI x)), some (.int (nI i65))], [.int (nI i65)], hC g z66 w66 a b)) rfl trivial ?_
      exact P0.ri (by decide +kernel) rfl rfl ⟨_, _, by rw [fir_some hi65 hp65 (oth_b h1)], rfl⟩
  · show P0 _ _ _ _ (2, [some (.ref 0), some (.int (nI sh)), some (.int (nI x)), some (.int 6)], [], hC g z65 w65 a b) _
    refine P0.b GX11_firstOther 4 (ob := []) (cf' := (37, [some (.ref 0), some (.int (nI sh)), some (.int (nI x)), some (.int 6)], [.int (-1)], hC g z65 w65 a b)) rfl trivial ?_
    exact P0.ri (by decide +kernel) rfl rfl ⟨_, _, by rw [fir_none hp65], rfl⟩
