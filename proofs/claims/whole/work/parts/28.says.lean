/-! ===== laid by program (wip/tools) ===== -/
/-- the slot's value as a number, at its bounds the text that stands there -/
def Std1 (a : Nat → Nat → Int32) (t : Nat) : Prop := Std a t (a 2 t).toNatClampNeg
def askV (a : Nat → Nat → Int32) (t : Nat) (age which nu se s d last : Int32) : Int32 := cut which (rdV which (rdT a t (a 2 t).toNatClampNeg (ev d s nu last se (age + s))))
/-- a witness that is there -/
def WOK (a : Nat → Nat → Int32) (x : Int32) : Prop := vp_in x 6 ∧ vp_in (3 * x) 18 ∧ vp_in (3 * x + 1) 18 ∧ ¬ x = -1 ∧ zz 7 (a 6 (3 * x + 1).toNatClampNeg) = true
def costV (a : Nat → Nat → Int32) (t : Nat) (age x : Int32) : Int32 :=
  let k := a 5 x.toNatClampNeg
  let v := askV a t age 1 (a 6 (3 * x).toNatClampNeg) (kb 7 (a 6 (3 * x + 1).toNatClampNeg)) 0 0 0
  if k = 1 then v / 2 else if k = 3 then v / 2 else if k = 4 then v + a 6 (3 * x).toNatClampNeg else if k = 5 then 2 * v else v
def sayV (a : Nat → Nat → Int32) (t : Nat) (age x s d last : Int32) : Int32 :=
  let k := a 5 x.toNatClampNeg
  let v := askV a t age 0 (a 6 (3 * x).toNatClampNeg) (kb 7 (a 6 (3 * x + 1).toNatClampNeg)) s d last
  if (a 6 (3 * x + 1).toNatClampNeg >>> (s &&& 31)) &&& 1 = 0 then -1 else if k = 5 then -1 else if k = 4 ∧ s - s / 2 * 2 = 1 then -1
  else if k = 1 then d else if k = 2 then 4 + d / 2 else if k = 4 then 4 + d / 2
  else if k = 3 then (if v ≤ 20 then d else (d + 1) - (d + 1) / 4 * 4)
  else if 10 * a 6 (3 * x).toNatClampNeg < v then -1 else d
set_option maxHeartbeats 1000000 in
theorem e_X11_costsOf {g z : Nat → Int32} {w : Int64} {a b : Nat → Nat → Int32} {t : Nat} (hr : g 4 = nI t) (hS : Std1 a t) {x : Int32} (hx : WOK a x) : P0 43 0 0 mX11_costsOf (0, ent 4 [.ref 0, .int x], [], hC g z w a b) (fun r h' => ∃ z' w', r = some (.int (costV a t (g 7) x)) ∧ h' = hC g z' w' a b) := by
  refine P0.b GX11_costsOf 11 (ob := [vp_in x 6]) (cf' := (13, [some (.ref 0), some (.int x), some (.int ((a 5) x.toNatClampNeg)), none], [.int 0, .int 0, .int 0, .int x, .int 1, .ref 0], hC g z w a b)) rfl ⟨hx.1, trivial⟩ ?_
  refine P0.cs (as := [.ref 0, .int 1, .int x, .int 0, .int 0, .int 0]) (rest := []) GX11_asks kX11_costsOf_13 rfl ⟨_, _, rfl, rfl, .inl ⟨_, _, _, _, rfl, rfl⟩⟩ (Nat.le_of_ble_eq_true rfl) (Nat.le_of_ble_eq_true rfl) (P0.mono (e_asks_wit hr hS x hx.2.2.2.1 hx.2.1 hx.2.2.1 hx.2.2.2.2 1 0 0 0) (Nat.le_of_ble_eq_true rfl) (Nat.zero_le _) (Nat.zero_le _) (fun _ _ q => q)) (Nat.le_of_ble_eq_true rfl) (fun _ _ ⟨_, _, _, q⟩ => q ▸ rfl) ?_
  rintro _ _ ⟨z3, w3, rfl, rfl⟩
  show P0 _ _ _ _ (16, [some (.ref 0), some (.int x), some (.int ((a 5) x.toNatClampNeg)), none], [.int (askV a t (g 7) 1 (a 6 (3 * x).toNatClampNeg) (kb 7 (a 6 (3 * x + 1).toNatClampNeg)) 0 0 0)], hC g z3 w3 a b) _
  refine P0.b GX11_costsOf 4 (ob := []) (cf' := (if (a 5) x.toNatClampNeg = 1 then 27 else 22, [some (.ref 0), some (.int x), some (.int ((a 5) x.toNatClampNeg)), some (.int (askV a t (g 7) 1 (a 6 (3 * x).toNatClampNeg) (kb 7 (a 6 (3 * x + 1).toNatClampNeg)) 0 0 0))], [], hC g z3 w3 a b)) rfl trivial ?_
  refine P0.if (fun h1 => ?_) (fun h1 => ?_)
  · refine P0.b GX11_costsOf 4 (ob := [¬ 2 = 0]) (cf' := (63, [some (.ref 0), some (.int x), some (.int ((a 5) x.toNatClampNeg)), some (.int (askV a t (g 7) 1 (a 6 (3 * x).toNatClampNeg) (kb 7 (a 6 (3 * x + 1).toNatClampNeg)) 0 0 0))], [.int ((askV a t (g 7) 1 (a 6 (3 * x).toNatClampNeg) (kb 7 (a 6 (3 * x + 1).toNatClampNeg)) 0 0 0) / 2)], hC g z3 w3 a b)) rfl ⟨(by decide), trivial⟩ ?_
    exact P0.ri (by decide +kernel) rfl rfl ⟨_, _, by simp [costV, h1], rfl⟩
  · refine P0.b GX11_costsOf 3 (ob := []) (cf' := (if (a 5) x.toNatClampNeg = 3 then 27 else 33, [some (.ref 0), some (.int x), some (.int ((a 5) x.toNatClampNeg)), some (.int (askV a t (g 7) 1 (a 6 (3 * x).toNatClampNeg) (kb 7 (a 6 (3 * x + 1).toNatClampNeg)) 0 0 0))], [], hC g z3 w3 a b)) rfl trivial ?_
    refine P0.if (fun h2 => ?_) (fun h2 => ?_)
    · refine P0.b GX11_costsOf 4 (ob := [¬ 2 = 0]) (cf' := (63, [some (.ref 0), some (.int x), some (.int ((a 5) x.toNatClampNeg)), some (.int (askV a t (g 7) 1 (a 6 (3 * x).toNatClampNeg) (kb 7 (a 6 (3 * x + 1).toNatClampNeg)) 0 0 0))], [.int ((askV a t (g 7) 1 (a 6 (3 * x).toNatClampNeg) (kb 7 (a 6 (3 * x + 1).toNatClampNeg)) 0 0 0) / 2)], hC g z3 w3 a b)) rfl ⟨(by decide), trivial⟩ ?_
      exact P0.ri (by decide +kernel) rfl rfl ⟨_, _, by simp [costV, h1, h2], rfl⟩
    · refine P0.b GX11_costsOf 3 (ob := []) (cf' := (if (a 5) x.toNatClampNeg = 4 then 38 else 51, [some (.ref 0), some (.int x), some (.int ((a 5) x.toNatClampNeg)), some (.int (askV a t (g 7) 1 (a 6 (3 * x).toNatClampNeg) (kb 7 (a 6 (3 * x + 1).toNatClampNeg)) 0 0 0))], [], hC g z3 w3 a b)) rfl trivial ?_
      refine P0.if (fun h3 => ?_) (fun h3 => ?_)
      · refine P0.b GX11_costsOf 9 (ob := [vp_in (3 * x) 18]) (cf' := (63, [some (.ref 0), some (.int x), some (.int ((a 5) x.toNatClampNeg)), some (.int (askV a t (g 7) 1 (a 6 (3 * x).toNatClampNeg) (kb 7 (a 6 (3 * x + 1).toNatClampNeg)) 0 0 0))], [.int ((askV a t (g 7) 1 (a 6 (3 * x).toNatClampNeg) (kb 7 (a 6 (3 * x + 1).toNatClampNeg)) 0 0 0) + ((a 6) (3 * x).toNatClampNeg))], hC g z3 w3 a b)) rfl ⟨hx.2.1, trivial⟩ ?_
        exact P0.ri (by decide +kernel) rfl rfl ⟨_, _, by simp [costV, h1, h2, h3], rfl⟩
      · refine P0.b GX11_costsOf 3 (ob := []) (cf' := (if (a 5) x.toNatClampNeg = 5 then 56 else 62, [some (.ref 0), some (.int x), some (.int ((a 5) x.toNatClampNeg)), some (.int (askV a t (g 7) 1 (a 6 (3 * x).toNatClampNeg) (kb 7 (a 6 (3 * x + 1).toNatClampNeg)) 0 0 0))], [], hC g z3 w3 a b)) rfl trivial ?_
        refine P0.if (fun h4 => ?_) (fun h4 => ?_)
        · refine P0.b GX11_costsOf 4 (ob := []) (cf' := (63, [some (.ref 0), some (.int x), some (.int ((a 5) x.toNatClampNeg)), some (.int (askV a t (g 7) 1 (a 6 (3 * x).toNatClampNeg) (kb 7 (a 6 (3 * x + 1).toNatClampNeg)) 0 0 0))], [.int (2 * (askV a t (g 7) 1 (a 6 (3 * x).toNatClampNeg) (kb 7 (a 6 (3 * x + 1).toNatClampNeg)) 0 0 0))], hC g z3 w3 a b)) rfl trivial ?_
          exact P0.ri (by decide +kernel) rfl rfl ⟨_, _, by simp [costV, h1, h2, h3, h4], rfl⟩
        · refine P0.b GX11_costsOf 1 (ob := []) (cf' := (63, [some (.ref 0), some (.int x), some (.int ((a 5) x.toNatClampNeg)), some (.int (askV a t (g 7) 1 (a 6 (3 * x).toNatClampNeg) (kb 7 (a 6 (3 * x + 1).toNatClampNeg)) 0 0 0))], [.int (askV a t (g 7) 1 (a 6 (3 * x).toNatClampNeg) (kb 7 (a 6 (3 * x + 1).toNatClampNeg)) 0 0 0)], hC g z3 w3 a b)) rfl trivial ?_
          exact P0.ri (by decide +kernel) rfl rfl ⟨_, _, by simp [costV, h1, h2, h3, h4], rfl⟩
set_option maxHeartbeats 1000000 in
theorem e_X11_saysOf {g z : Nat → Int32} {w : Int64} {a b : Nat → Nat → Int32} {t : Nat} (hr : g 4 = nI t) (hS : Std1 a t) {x : Int32} (hx : WOK a x) (s d last : Int32) : P0 43 0 0 mX11_saysOf (0, ent 7 [.ref 0, .int x, .int s, .int d, .int last], [], hC g z w a b) (fun r h' => ∃ z' w', r = some (.int (sayV a t (g 7) x s d last)) ∧ h' = hC g z' w' a b) := by
  refine P0.b GX11_saysOf 18 (ob := [vp_in x 6, vp_in ((3 * x) + 1) 18]) (cf' := (if (((a 6) ((3 * x) + 1).toNatClampNeg) >>> (s &&& 31)) &&& 1 = 0 then 44 else 25, [some (.ref 0), some (.int x), some (.int s), some (.int d), some (.int last), some (.int ((a 5) x.toNatClampNeg)), none], [], hC g z w a b)) rfl ⟨hx.1, hx.2.2.1, trivial⟩ ?_
  refine P0.if (fun h1 => ?_) (fun h1 => ?_)
  · refine P0.b GX11_saysOf 1 (ob := []) (cf' := (45, [some (.ref 0), some (.int x), some (.int s), some (.int d), some (.int last), some (.int ((a 5) x.toNatClampNeg)), none], [.int (-1)], hC g z w a b)) rfl trivial ?_
    exact P0.ri (by decide +kernel) rfl rfl ⟨_, _, by simp [sayV, h1], rfl⟩
  · refine P0.b GX11_saysOf 3 (ob := []) (cf' := (if (a 5) x.toNatClampNeg = 5 then 44 else 31, [some (.ref 0), some (.int x), some (.int s), some (.int d), some (.int last), some (.int ((a 5) x.toNatClampNeg)), none], [], hC g z w a b)) rfl trivial ?_
    refine P0.if (fun h2 => ?_) (fun h2 => ?_)
    · refine P0.b GX11_saysOf 1 (ob := []) (cf' := (45, [some (.ref 0), some (.int x), some (.int s), some (.int d), some (.int last), some (.int ((a 5) x.toNatClampNeg)), none], [.int (-1)], hC g z w a b)) rfl trivial ?_
      exact P0.ri (by decide +kernel) rfl rfl ⟨_, _, by simp [sayV, h1, h2], rfl⟩
    · refine P0.b GX11_saysOf 3 (ob := []) (cf' := (if (a 5) x.toNatClampNeg = 4 then 37 else 46, [some (.ref 0), some (.int x), some (.int s), some (.int d), some (.int last), some (.int ((a 5) x.toNatClampNeg)), none], [], hC g z w a b)) rfl trivial ?_
      refine P0.if (fun h3 => ?_) (fun h3 => ?_)
      · refine P0.b GX11_saysOf 5 (ob := [¬ 2 = 0]) (cf' := (if s - s / 2 * 2 = 1 then 44 else 46, [some (.ref 0), some (.int x), some (.int s), some (.int d), some (.int last), some (.int ((a 5) x.toNatClampNeg)), none], [], hC g z w a b)) rfl ⟨(by decide), trivial⟩ ?_
        refine P0.if (fun h4 => ?_) (fun h4 => ?_)
        · refine P0.b GX11_saysOf 1 (ob := []) (cf' := (45, [some (.ref 0), some (.int x), some (.int s), some (.int d), some (.int last), some (.int ((a 5) x.toNatClampNeg)), none], [.int (-1)], hC g z w a b)) rfl trivial ?_
          exact P0.ri (by decide +kernel) rfl rfl ⟨_, _, by simp [sayV, h1, h2, h3, h4], rfl⟩
        · refine P0.b GX11_saysOf 3 (ob := []) (cf' := (if (a 5) x.toNatClampNeg = 1 then 52 else 54, [some (.ref 0), some (.int x), some (.int s), some (.int d), some (.int last), some (.int ((a 5) x.toNatClampNeg)), none], [], hC g z w a b)) rfl trivial ?_
          rw [if_neg (show ¬ ((a 5) x.toNatClampNeg = 1) from by rw [h3]; decide)]
          refine P0.b GX11_saysOf 3 (ob := []) (cf' := (if (a 5) x.toNatClampNeg = 2 then 66 else 60, [some (.ref 0), some (.int x), some (.int s), some (.int d), some (.int last), some (.int ((a 5) x.toNatClampNeg)), none], [], hC g z w a b)) rfl trivial ?_
          rw [if_neg (show ¬ ((a 5) x.toNatClampNeg = 2) from by rw [h3]; decide)]
          refine P0.b GX11_saysOf 3 (ob := []) (cf' := (if (a 5) x.toNatClampNeg = 4 then 66 else 72, [some (.ref 0), some (.int x), some (.int s), some (.int d), some (.int last), some (.int ((a 5) x.toNatClampNeg)), none], [], hC g z w a b)) rfl trivial ?_
          rw [if_pos (show (a 5) x.toNatClampNeg = 4 from h3)]
          refine P0.b GX11_saysOf 5 (ob := [¬ 2 = 0]) (cf' := (71, [some (.ref 0), some (.int x), some (.int s), some (.int d), some (.int last), some (.int ((a 5) x.toNatClampNeg)), none], [.int (4 + (d / 2))], hC g z w a b)) rfl ⟨(by decide), trivial⟩ ?_
          exact P0.ri (by decide +kernel) rfl rfl ⟨_, _, by simp [sayV, h1, h2, h3, h4], rfl⟩
      · refine P0.b GX11_saysOf 3 (ob := []) (cf' := (if (a 5) x.toNatClampNeg = 1 then 52 else 54, [some (.ref 0), some (.int x), some (.int s), some (.int d), some (.int last), some (.int ((a 5) x.toNatClampNeg)), none], [], hC g z w a b)) rfl trivial ?_
        refine P0.if (fun h5 => ?_) (fun h5 => ?_)
        · refine P0.b GX11_saysOf 1 (ob := []) (cf' := (53, [some (.ref 0), some (.int x), some (.int s), some (.int d), some (.int last), some (.int ((a 5) x.toNatClampNeg)), none], [.int d], hC g z w a b)) rfl trivial ?_
          exact P0.ri (by decide +kernel) rfl rfl ⟨_, _, by simp [sayV, h1, h2, h3, h5], rfl⟩
        · refine P0.b GX11_saysOf 3 (ob := []) (cf' := (if (a 5) x.toNatClampNeg = 2 then 66 else 60, [some (.ref 0), some (.int x), some (.int s), some (.int d), some (.int last), some (.int ((a 5) x.toNatClampNeg)), none], [], hC g z w a b)) rfl trivial ?_
          refine P0.if (fun h6 => ?_) (fun h6 => ?_)
          · refine P0.b GX11_saysOf 5 (ob := [¬ 2 = 0]) (cf' := (71, [some (.ref 0), some (.int x), some (.int s), some (.int d), some (.int last), some (.int ((a 5) x.toNatClampNeg)), none], [.int (4 + (d / 2))], hC g z w a b)) rfl ⟨(by decide), trivial⟩ ?_
            exact P0.ri (by decide +kernel) rfl rfl ⟨_, _, by simp [sayV, h1, h2, h3, h5, h6], rfl⟩
          · refine P0.b GX11_saysOf 3 (ob := []) (cf' := (if (a 5) x.toNatClampNeg = 4 then 66 else 72, [some (.ref 0), some (.int x), some (.int s), some (.int d), some (.int last), some (.int ((a 5) x.toNatClampNeg)), none], [], hC g z w a b)) rfl trivial ?_
            rw [if_neg (show ¬ ((a 5) x.toNatClampNeg = 4) from h3)]
            refine P0.b GX11_saysOf 6 (ob := []) (cf' := (79, [some (.ref 0), some (.int x), some (.int s), some (.int d), some (.int last), some (.int ((a 5) x.toNatClampNeg)), none], [.int last, .int d, .int s, .int x, .int 0, .ref 0], hC g z w a b)) rfl trivial ?_
            refine P0.cs (as := [.ref 0, .int 0, .int x, .int s, .int d, .int last]) (rest := []) GX11_asks kX11_saysOf_79 rfl ⟨_, _, rfl, rfl, .inl ⟨_, _, _, _, rfl, rfl⟩⟩ (Nat.le_of_ble_eq_true rfl) (Nat.le_of_ble_eq_true rfl) (P0.mono (e_asks_wit hr hS x hx.2.2.2.1 hx.2.1 hx.2.2.1 hx.2.2.2.2 0 s d last) (Nat.le_of_ble_eq_true rfl) (Nat.zero_le _) (Nat.zero_le _) (fun _ _ q => q)) (Nat.le_of_ble_eq_true rfl) (fun _ _ ⟨_, _, _, q⟩ => q ▸ rfl) ?_
            rintro _ _ ⟨z4, w4, rfl, rfl⟩
            show P0 _ _ _ _ (82, [some (.ref 0), some (.int x), some (.int s), some (.int d), some (.int last), some (.int ((a 5) x.toNatClampNeg)), none], [.int (askV a t (g 7) 0 (a 6 (3 * x).toNatClampNeg) (kb 7 (a 6 (3 * x + 1).toNatClampNeg)) s d last)], hC g z4 w4 a b) _
            refine P0.b GX11_saysOf 4 (ob := []) (cf' := (if (a 5) x.toNatClampNeg = 3 then 90 else 107, [some (.ref 0), some (.int x), some (.int s), some (.int d), some (.int last), some (.int ((a 5) x.toNatClampNeg)), some (.int (askV a t (g 7) 0 (a 6 (3 * x).toNatClampNeg) (kb 7 (a 6 (3 * x + 1).toNatClampNeg)) s d last))], [], hC g z4 w4 a b)) rfl trivial ?_
            refine P0.if (fun h7 => ?_) (fun h7 => ?_)
            · refine P0.b GX11_saysOf 3 (ob := []) (cf' := (if (askV a t (g 7) 0 (a 6 (3 * x).toNatClampNeg) (kb 7 (a 6 (3 * x + 1).toNatClampNeg)) s d last) ≤ 20 then 105 else 97, [some (.ref 0), some (.int x), some (.int s), some (.int d), some (.int last), some (.int ((a 5) x.toNatClampNeg)), some (.int (askV a t (g 7) 0 (a 6 (3 * x).toNatClampNeg) (kb 7 (a 6 (3 * x + 1).toNatClampNeg)) s d last))], [], hC g z4 w4 a b)) rfl trivial ?_
              refine P0.if (fun h8 => ?_) (fun h8 => ?_)
              · refine P0.b GX11_saysOf 1 (ob := []) (cf' := (106, [some (.ref 0), some (.int x), some (.int s), some (.int d), some (.int last), some (.int ((a 5) x.toNatClampNeg)), some (.int (askV a t (g 7) 0 (a 6 (3 * x).toNatClampNeg) (kb 7 (a 6 (3 * x + 1).toNatClampNeg)) s d last))], [.int d], hC g z4 w4 a b)) rfl trivial ?_
                exact P0.ri (by decide +kernel) rfl rfl ⟨_, _, by simp [sayV, h1, h2, h3, h5, h6, h7, h8], rfl⟩
              · refine P0.b GX11_saysOf 6 (ob := [¬ 4 = 0]) (cf' := (106, [some (.ref 0), some (.int x), some (.int s), some (.int d), some (.int last), some (.int ((a 5) x.toNatClampNeg)), some (.int (askV a t (g 7) 0 (a 6 (3 * x).toNatClampNeg) (kb 7 (a 6 (3 * x + 1).toNatClampNeg)) s d last))], [.int ((d + 1) - (d + 1) / 4 * 4)], hC g z4 w4 a b)) rfl ⟨(by decide), trivial⟩ ?_
                exact P0.ri (by decide +kernel) rfl rfl ⟨_, _, by simp [sayV, h1, h2, h3, h5, h6, h7, h8], rfl⟩
            · refine P0.b GX11_saysOf 10 (ob := [vp_in (3 * x) 18]) (cf' := (if 10 * ((a 6) (3 * x).toNatClampNeg) < (askV a t (g 7) 0 (a 6 (3 * x).toNatClampNeg) (kb 7 (a 6 (3 * x + 1).toNatClampNeg)) s d last) then 127 else 123, [some (.ref 0), some (.int x), some (.int s), some (.int d), some (.int last), some (.int ((a 5) x.toNatClampNeg)), some (.int (askV a t (g 7) 0 (a 6 (3 * x).toNatClampNeg) (kb 7 (a 6 (3 * x + 1).toNatClampNeg)) s d last))], [], hC g z4 w4 a b)) rfl ⟨hx.2.1, trivial⟩ ?_
              refine P0.if (fun h9 => ?_) (fun h9 => ?_)
              · refine P0.b GX11_saysOf 1 (ob := []) (cf' := (128, [some (.ref 0), some (.int x), some (.int s), some (.int d), some (.int last), some (.int ((a 5) x.toNatClampNeg)), some (.int (askV a t (g 7) 0 (a 6 (3 * x).toNatClampNeg) (kb 7 (a 6 (3 * x + 1).toNatClampNeg)) s d last))], [.int (-1)], hC g z4 w4 a b)) rfl trivial ?_
                exact P0.ri (by decide +kernel) rfl rfl ⟨_, _, by simp [sayV, h1, h2, h3, h5, h6, h7, h9], rfl⟩
              · refine P0.b GX11_saysOf 2 (ob := []) (cf' := (128, [some (.ref 0), some (.int x), some (.int s), some (.int d), some (.int last), some (.int ((a 5) x.toNatClampNeg)), some (.int (askV a t (g 7) 0 (a 6 (3 * x).toNatClampNeg) (kb 7 (a 6 (3 * x + 1).toNatClampNeg)) s d last))], [.int d], hC g z4 w4 a b)) rfl trivial ?_
                exact P0.ri (by decide +kernel) rfl rfl ⟨_, _, by simp [sayV, h1, h2, h3, h5, h6, h7, h9], rfl⟩
/-- what one says of a step of the life that is -/
def nowV (a : Nat → Nat → Int32) (t : Nat) (age x s : Int32) : Int32 := sayV a t age x s (a 4 s.toNatClampNeg) (if s = 0 then 0 else a 4 (s - 1).toNatClampNeg)
theorem e_X11_saysNow {g z : Nat → Int32} {w : Int64} {a b : Nat → Nat → Int32} {t : Nat} (hr : g 4 = nI t) (hS : Std1 a t) {x : Int32} (hx : WOK a x) {s : Int32} (hs : vp_in s 6) (hs1 : ¬ s = 0 → vp_in (s - 1) 6) : P0 44 0 0 mX11_saysNow (0, ent 3 [.ref 0, .int x, .int s], [], hC g z w a b) (fun r h' => ∃ z' w', r = some (.int (nowV a t (g 7) x s)) ∧ h' = hC g z' w' a b) := by
  refine P0.b GX11_saysNow 9 (ob := [vp_in s 6]) (cf' := (if s = 0 then 13 else 17, [some (.ref 0), some (.int x), some (.int s)], [.int ((a 4) s.toNatClampNeg), .int s, .int x, .ref 0], hC g z w a b)) rfl ⟨hs, trivial⟩ ?_
  refine P0.if (fun h1 => ?_) (fun h1 => ?_)
  · refine P0.b GX11_saysNow 2 (ob := []) (cf' := (25, [some (.ref 0), some (.int x), some (.int s)], [.int 0, .int ((a 4) s.toNatClampNeg), .int s, .int x, .ref 0], hC g z w a b)) rfl trivial ?_
    refine P0.cs (as := [.ref 0, .int x, .int s, .int ((a 4) s.toNatClampNeg), .int 0]) (rest := []) GX11_saysOf kX11_saysNow_25 rfl ⟨_, _, rfl, rfl, .inl ⟨_, _, _, _, rfl, rfl⟩⟩ (Nat.le_of_ble_eq_true rfl) (Nat.le_of_ble_eq_true rfl) (P0.mono (e_X11_saysOf hr hS hx s ((a 4) s.toNatClampNeg) 0) (Nat.le_of_ble_eq_true rfl) (Nat.zero_le _) (Nat.zero_le _) (fun _ _ q => q)) (Nat.le_of_ble_eq_true rfl) (fun _ _ ⟨_, _, _, q⟩ => q ▸ rfl) ?_
    rintro _ _ ⟨z5, w5, rfl, rfl⟩
    show P0 _ _ _ _ (28, [some (.ref 0), some (.int x), some (.int s)], [.int (sayV a t (g 7) x s ((a 4) s.toNatClampNeg) 0)], hC g z5 w5 a b) _
    exact P0.ri (by decide +kernel) rfl rfl ⟨_, _, by simp [nowV, h1], rfl⟩
  · refine P0.b GX11_saysNow 6 (ob := [vp_in (s - 1) 6]) (cf' := (25, [some (.ref 0), some (.int x), some (.int s)], [.int ((a 4) (s - 1).toNatClampNeg), .int ((a 4) s.toNatClampNeg), .int s, .int x, .ref 0], hC g z w a b)) rfl ⟨hs1 h1, trivial⟩ ?_
    refine P0.cs (as := [.ref 0, .int x, .int s, .int ((a 4) s.toNatClampNeg), .int ((a 4) (s - 1).toNatClampNeg)]) (rest := []) GX11_saysOf kX11_saysNow_25 rfl ⟨_, _, rfl, rfl, .inl ⟨_, _, _, _, rfl, rfl⟩⟩ (Nat.le_of_ble_eq_true rfl) (Nat.le_of_ble_eq_true rfl) (P0.mono (e_X11_saysOf hr hS hx s ((a 4) s.toNatClampNeg) ((a 4) (s - 1).toNatClampNeg)) (Nat.le_of_ble_eq_true rfl) (Nat.zero_le _) (Nat.zero_le _) (fun _ _ q => q)) (Nat.le_of_ble_eq_true rfl) (fun _ _ ⟨_, _, _, q⟩ => q ▸ rfl) ?_
    rintro _ _ ⟨z6, w6, rfl, rfl⟩
    show P0 _ _ _ _ (28, [some (.ref 0), some (.int x), some (.int s)], [.int (sayV a t (g 7) x s ((a 4) s.toNatClampNeg) ((a 4) (s - 1).toNatClampNeg))], hC g z6 w6 a b) _
    exact P0.ri (by decide +kernel) rfl rfl ⟨_, _, by simp [nowV, h1], rfl⟩
