/-! ===== laid by program (wip/tools) ===== -/
/-- slots 12 .. 26 and rows 7 .. 11 are the reference's scratch -/
def mx (g z : Nat → Int32) : Nat → Int32 := fun k => bif Nat.ble 12 k && Nat.ble k 26 then z k else g k
def my (a b : Nat → Nat → Int32) : Nat → Nat → Int32 := fun k => bif Nat.ble 7 k && Nat.ble k 11 then b k else a k
def hC (g z : Nat → Int32) (w : Int64) (a b : Nat → Nat → Int32) : PH := hM (mx g z) w (my a b)
theorem hC_len {g z : Nat → Int32} {w : Int64} {a b : Nat → Nat → Int32} : (hC g z w a b).length = 18 := rfl
/-- the reader's end is such a heap again -/
def zOf (z : Nat → Int32) (fr n e tk p op bd fl : Int32) : Nat → Int32 := upd (upd (upd (upd (upd (upd (upd (upd z 18 fr) 19 n) 20 e) 21 tk) 22 p) 24 op) 25 bd) 26 fl
theorem hT_hC {g z : Nat → Int32} {a b : Nat → Nat → Int32} {fr n e tk p : Int32} {w : Int64} {op bd fl : Int32} : hT (mx g z) (my a b) fr n e tk p w op bd fl = hC g (zOf z fr n e tk p op bd fl) w a b := rfl
/-- six values for the names -/
def ev (d s nu la se ag : Int32) : Nat → Int32 := fun k => if k = 12 then d else if k = 13 then s else if k = 14 then nu else if k = 15 then la else if k = 16 then se else ag
theorem vA_ev {e f : Nat → Int32} (h2 : e 12 = f 12) (h3 : e 13 = f 13) (h4 : e 14 = f 14) (h5 : e 15 = f 15) (h6 : e 16 = f 16) (h7 : e 17 = f 17) : vA e = vA f := by
  have : vNm e = vNm f := by funext s; unfold vNm; rw [h2, h3, h4, h5, h6, h7]
  unfold vA
  rw [this]
/-- what a text's part says (which: 0 shames, 1 costs, 2 worth), cut to its bounds -/
def rdT (a : Nat → Nat → Int32) (t n : Nat) (e : Nat → Int32) : Sum Nat (Int32 × Int32 × Int32) := rText (sg (Bt (a 1) (160 * t) n)) (nx (Bt (a 1) (160 * t) n)) (vA e) (skp (Bt (a 1) (160 * t) n) 0)
def rdV (which : Int32) (R : Sum Nat (Int32 × Int32 × Int32)) : Int32 := match R with
  | .inl _ => 0
  | .inr (x, y, z) => if which = 0 then x else if which = 1 then y else z
def cut (which v : Int32) : Int32 := if v < (if which = 2 then -99 else 0) then (if which = 2 then -99 else 0) else if 99 < v then 99 else v
theorem rdT_eq {a b : Nat → Nat → Int32} {t n : Nat} {e e' : Nat → Int32} (h : vA e' = vA e) : rText (sg (Bt (my a b 1) (160 * t) n)) (nx (Bt (my a b 1) (160 * t) n)) (vA e') (skp (Bt (my a b 1) (160 * t) n) 0) = rdT a t n e := by rw [h]; rfl
/-- a text that stands: where, how long, readable whatever the names say -/
def Std (a : Nat → Nat → Int32) (t n : Nat) : Prop := t < 6 ∧ a 2 t = nI n ∧ TxOK a (160 * t) n ∧ ∀ e, ∃ v, rdT a t n e = .inr v
/-- counting bits one by one -/
def kb : Nat → Int32 → Int32
  | 0, _ => 0
  | f + 1, x => if x = 0 then 0 else 1 + kb f (x &&& (x - 1))
def zz : Nat → Int32 → Bool
  | 0, x => decide (x = 0)
  | f + 1, x => decide (x = 0) || zz f (x &&& (x - 1))
theorem zz_64 : ∀ k, k < 64 → zz 7 (nI k) = true := by decide +kernel
theorem lp_bitsOf {v : Int32} : ∀ (f : Nat) (x c : Int32), zz f x = true → P0 0 0 0 mX11_bitsOf (4, [some (.int v), some (.int c), some (.int x)], [], []) (fun r h' => r = some (.int (c + kb f x)) ∧ h' = [])
  | 0, x, c, hz => by
    refine P0.b GX11_bitsOf 2 (ob := []) (cf' := (if x = 0 then 20 else 8, [some (.int v), some (.int c), some (.int x)], [], [])) rfl trivial ?_
    rw [if_pos (show x = 0 from by simpa [zz] using hz)]
    refine P0.b GX11_bitsOf 1 (ob := []) (cf' := (21, [some (.int v), some (.int c), some (.int x)], [.int c], [])) rfl trivial ?_
    exact P0.ri (by decide +kernel) rfl rfl ⟨by simp [kb], rfl⟩
  | f + 1, x, c, hz => by
    refine P0.b GX11_bitsOf 2 (ob := []) (cf' := (if x = 0 then 20 else 8, [some (.int v), some (.int c), some (.int x)], [], [])) rfl trivial ?_
    refine P0.if (fun h1 => ?_) (fun h1 => ?_)
    · refine P0.b GX11_bitsOf 1 (ob := []) (cf' := (21, [some (.int v), some (.int c), some (.int x)], [.int c], [])) rfl trivial ?_
      exact P0.ri (by decide +kernel) rfl rfl ⟨by simp [kb, h1], rfl⟩
    · refine P0.b GX11_bitsOf 8 (ob := []) (cf' := (4, [some (.int v), some (.int (c + 1)), some (.int (x &&& (x - 1)))], [], [])) rfl trivial ?_
      have hk : kb (f + 1) x = 1 + kb f (x &&& (x - 1)) := by conv => lhs; unfold kb; rw [if_neg h1]
      rw [hk, ← Int32.add_assoc]
      exact lp_bitsOf f _ _ (by have h9 := hz; unfold zz at h9; simpa [h1] using h9)
theorem e_X11_bitsOf {v : Int32} (hv : zz 7 v = true) : P0 0 0 0 mX11_bitsOf (0, ent 3 [.int v], [], []) (fun r h' => r = some (.int (kb 7 v)) ∧ h' = []) := by
  refine P0.b GX11_bitsOf 4 (ob := []) (cf' := (4, [some (.int v), some (.int 0), some (.int v)], [], [])) rfl trivial ?_
  have h9 := lp_bitsOf (v := v) 7 v 0 hv
  rw [Int32.zero_add] at h9
  exact h9
set_option maxHeartbeats 1000000 in
theorem e_asks_none {g z : Nat → Int32} {w : Int64} {a b : Nat → Nat → Int32} {t n : Nat} (hr : g 4 = nI t) (hS : Std a t n) (which s d last : Int32) : P0 42 0 0 mX11_asks (0, ent 7 [.ref 0, .int which, .int (-1), .int s, .int d, .int last], [], hC g z w a b) (fun r h' => ∃ z' w', r = some (.int (cut which (rdV which (rdT a t n (ev d s 0 last 0 (g 7 + s)))))) ∧ h' = hC g z' w' a b) := by
  refine P0.b GX11_asks 3 (ob := []) (cf' := (6, [some (.ref 0), some (.int which), some (.int (-1)), some (.int s), some (.int d), some (.int last), none], [], hC g (upd z 12 d) w a b)) rfl trivial ?_
  refine P0.b GX11_asks 3 (ob := []) (cf' := (11, [some (.ref 0), some (.int which), some (.int (-1)), some (.int s), some (.int d), some (.int last), none], [], hC g (upd (upd z 12 d) 13 s) w a b)) rfl trivial ?_
  refine P0.b GX11_asks 7 (ob := []) (cf' := (32, [some (.ref 0), some (.int which), some (.int (-1)), some (.int s), some (.int d), some (.int last), none], [], hC g (upd (upd (upd z 12 d) 13 s) 14 0) w a b)) rfl trivial ?_
  refine P0.b GX11_asks 3 (ob := []) (cf' := (38, [some (.ref 0), some (.int which), some (.int (-1)), some (.int s), some (.int d), some (.int last), none], [], hC g (upd (upd (upd (upd z 12 d) 13 s) 14 0) 15 last) w a b)) rfl trivial ?_
  refine P0.b GX11_asks 7 (ob := []) (cf' := (64, [some (.ref 0), some (.int which), some (.int (-1)), some (.int s), some (.int d), some (.int last), none], [], hC g (upd (upd (upd (upd (upd z 12 d) 13 s) 14 0) 15 last) 16 0) w a b)) rfl trivial ?_
  refine P0.b GX11_asks 6 (ob := []) (cf' := (74, [some (.ref 0), some (.int which), some (.int (-1)), some (.int s), some (.int d), some (.int last), none], [], hC g (upd (upd (upd (upd (upd (upd z 12 d) 13 s) 14 0) 15 last) 16 0) 17 ((g 7) + s)) w a b)) rfl trivial ?_
  refine P0.b GX11_asks 4 (ob := []) (cf' := (80, [some (.ref 0), some (.int which), some (.int (-1)), some (.int s), some (.int d), some (.int last), none], [.int which, .int (g 4), .ref 0], hC g (upd (upd (upd (upd (upd (upd z 12 d) 13 s) 14 0) 15 last) 16 0) 17 ((g 7) + s)) w a b)) rfl trivial ?_
  rw [show g 4 = nI t from hr]
  refine P0.cs (as := [.ref 0, .int (nI t), .int which]) (rest := []) GX11_read kX11_asks_80 rfl ⟨_, _, rfl, rfl, .inl ⟨_, _, _, _, rfl, rfl⟩⟩ (Nat.le_of_ble_eq_true rfl) (Nat.le_of_ble_eq_true rfl) (P0.mono (e_X11_read (g := mx g (upd (upd (upd (upd (upd (upd z 12 d) 13 s) 14 0) 15 last) 16 0) 17 ((g 7) + s))) (a := my a b) hS.1 rfl hS.2.1 hS.2.2.1 which (z 18) (z 19) (z 20) (z 21) (z 22) w (z 24) (z 25) (z 26)) (Nat.le_of_ble_eq_true rfl) (Nat.zero_le _) (Nat.zero_le _) (fun _ _ q => q)) (Nat.le_of_ble_eq_true rfl) (fun _ _ q => q.len) ?_
  rintro r1 h1 hq1
  obtain ⟨⟨x1, y1, z1⟩, hR1⟩ := hS.2.2.2 (ev d s 0 last 0 (g 7 + s))
  have hE1 : vA (mx g (upd (upd (upd (upd (upd (upd z 12 d) 13 s) 14 0) 15 last) 16 0) 17 ((g 7) + s))) = vA (ev d s 0 last 0 (g 7 + s)) := vA_ev rfl rfl rfl rfl rfl rfl
  rw [rdT_eq hE1, hR1] at hq1
  obtain ⟨fr1, n1, e1, tk1, p1, w1, op1, fl1, rfl, rfl⟩ := hq1
  rw [hT_hC]
  show P0 _ _ _ _ (83, [some (.ref 0), some (.int which), some (.int (-1)), some (.int s), some (.int d), some (.int last), none], [.int (if which = 0 then x1 else if which = 1 then y1 else z1)], hC g (zOf (upd (upd (upd (upd (upd (upd z 12 d) 13 s) 14 0) 15 last) 16 0) 17 ((g 7) + s)) fr1 n1 e1 tk1 p1 op1 0 fl1) w1 a b) _
  refine P0.b GX11_asks 5 (ob := []) (cf' := (if which = 2 then 92 else 97, [some (.ref 0), some (.int which), some (.int (-1)), some (.int s), some (.int d), some (.int last), some (.int (if which = 0 then x1 else if which = 1 then y1 else z1))], [.int (if which = 0 then x1 else if which = 1 then y1 else z1)], hC g (zOf (upd (upd (upd (upd (upd (upd z 12 d) 13 s) 14 0) 15 last) 16 0) 17 ((g 7) + s)) fr1 n1 e1 tk1 p1 op1 0 fl1) w1 a b)) rfl trivial ?_
  refine P0.if (fun h1 => ?_) (fun h1 => ?_)
  · refine P0.b GX11_asks 3 (ob := []) (cf' := (100, [some (.ref 0), some (.int which), some (.int (-1)), some (.int s), some (.int d), some (.int last), some (.int (if which = 0 then x1 else if which = 1 then y1 else z1))], [.int 99, .int (-99), .int (if which = 0 then x1 else if which = 1 then y1 else z1)], hC g (zOf (upd (upd (upd (upd (upd (upd z 12 d) 13 s) 14 0) 15 last) 16 0) 17 ((g 7) + s)) fr1 n1 e1 tk1 p1 op1 0 fl1) w1 a b)) rfl trivial ?_
    refine P0.cr (io := []) (as := [.int (if which = 0 then x1 else if which = 1 then y1 else z1), .int (-99), .int 99]) (rest := []) (hc := []) (hc1 := []) (r1 := some (.int (if (if which = 0 then x1 else if which = 1 then y1 else z1) < (-99) then (-99) else if 99 < (if which = 0 then x1 else if which = 1 then y1 else z1) then 99 else (if which = 0 then x1 else if which = 1 then y1 else z1)))) (st' := [.int (if (if which = 0 then x1 else if which = 1 then y1 else z1) < (-99) then (-99) else if 99 < (if which = 0 then x1 else if which = 1 then y1 else z1) then 99 else (if which = 0 then x1 else if which = 1 then y1 else z1))]) (h' := hC g (zOf (upd (upd (upd (upd (upd (upd z 12 d) 13 s) 14 0) 15 last) 16 0) 17 ((g 7) + s)) fr1 n1 e1 tk1 p1 op1 0 fl1) w1 a b) (d0 := 0) GX11_within kX11_asks_100 rfl rfl (Nat.le_of_ble_eq_true rfl) (Nat.le_of_ble_eq_true rfl) rfl trivial (e_X11_within (if which = 0 then x1 else if which = 1 then y1 else z1) (-99) 99) (Nat.le_of_ble_eq_true rfl) rfl (Nat.le_of_ble_eq_true rfl) (Nat.le_of_ble_eq_true rfl) rfl rfl ?_
    exact P0.ri (by decide +kernel) rfl rfl ⟨_, _, by rw [hR1]; unfold cut; rw [if_pos h1]; rfl, rfl⟩
  · refine P0.b GX11_asks 2 (ob := []) (cf' := (100, [some (.ref 0), some (.int which), some (.int (-1)), some (.int s), some (.int d), some (.int last), some (.int (if which = 0 then x1 else if which = 1 then y1 else z1))], [.int 99, .int 0, .int (if which = 0 then x1 else if which = 1 then y1 else z1)], hC g (zOf (upd (upd (upd (upd (upd (upd z 12 d) 13 s) 14 0) 15 last) 16 0) 17 ((g 7) + s)) fr1 n1 e1 tk1 p1 op1 0 fl1) w1 a b)) rfl trivial ?_
    refine P0.cr (io := []) (as := [.int (if which = 0 then x1 else if which = 1 then y1 else z1), .int 0, .int 99]) (rest := []) (hc := []) (hc1 := []) (r1 := some (.int (if (if which = 0 then x1 else if which = 1 then y1 else z1) < 0 then 0 else if 99 < (if which = 0 then x1 else if which = 1 then y1 else z1) then 99 else (if which = 0 then x1 else if which = 1 then y1 else z1)))) (st' := [.int (if (if which = 0 then x1 else if which = 1 then y1 else z1) < 0 then 0 else if 99 < (if which = 0 then x1 else if which = 1 then y1 else z1) then 99 else (if which = 0 then x1 else if which = 1 then y1 else z1))]) (h' := hC g (zOf (upd (upd (upd (upd (upd (upd z 12 d) 13 s) 14 0) 15 last) 16 0) 17 ((g 7) + s)) fr1 n1 e1 tk1 p1 op1 0 fl1) w1 a b) (d0 := 0) GX11_within kX11_asks_100 rfl rfl (Nat.le_of_ble_eq_true rfl) (Nat.le_of_ble_eq_true rfl) rfl trivial (e_X11_within (if which = 0 then x1 else if which = 1 then y1 else z1) 0 99) (Nat.le_of_ble_eq_true rfl) rfl (Nat.le_of_ble_eq_true rfl) (Nat.le_of_ble_eq_true rfl) rfl rfl ?_
    exact P0.ri (by decide +kernel) rfl rfl ⟨_, _, by rw [hR1]; unfold cut; rw [if_neg h1]; rfl, rfl⟩
set_option maxHeartbeats 1000000 in
theorem e_asks_wit {g z : Nat → Int32} {w : Int64} {a b : Nat → Nat → Int32} {t n : Nat} (hr : g 4 = nI t) (hS : Std a t n) (x : Int32) (hx : ¬ x = -1) (hi0 : vp_in (3 * x) 18) (hi1 : vp_in (3 * x + 1) 18) (hzz : zz 7 (a 6 (3 * x + 1).toNatClampNeg) = true) (which s d last : Int32) : P0 42 0 0 mX11_asks (0, ent 7 [.ref 0, .int which, .int x, .int s, .int d, .int last], [], hC g z w a b) (fun r h' => ∃ z' w', r = some (.int (cut which (rdV which (rdT a t n (ev d s (a 6 (3 * x).toNatClampNeg) last (kb 7 (a 6 (3 * x + 1).toNatClampNeg)) (g 7 + s)))))) ∧ h' = hC g z' w' a b) := by
  refine P0.b GX11_asks 3 (ob := []) (cf' := (6, [some (.ref 0), some (.int which), some (.int x), some (.int s), some (.int d), some (.int last), none], [], hC g (upd z 12 d) w a b)) rfl trivial ?_
  refine P0.b GX11_asks 3 (ob := []) (cf' := (11, [some (.ref 0), some (.int which), some (.int x), some (.int s), some (.int d), some (.int last), none], [], hC g (upd (upd z 12 d) 13 s) w a b)) rfl trivial ?_
  refine P0.b GX11_asks 4 (ob := []) (cf' := (if x = -1 then 17 else 21, [some (.ref 0), some (.int which), some (.int x), some (.int s), some (.int d), some (.int last), none], [.ref 0], hC g (upd (upd z 12 d) 13 s) w a b)) rfl trivial ?_
  rw [if_neg (show ¬ (x = -1) from hx)]
  refine P0.b GX11_asks 7 (ob := [vp_in (3 * x) 18]) (cf' := (32, [some (.ref 0), some (.int which), some (.int x), some (.int s), some (.int d), some (.int last), none], [], hC g (upd (upd (upd z 12 d) 13 s) 14 ((a 6) (3 * x).toNatClampNeg)) w a b)) rfl ⟨hi0, trivial⟩ ?_
  refine P0.b GX11_asks 3 (ob := []) (cf' := (38, [some (.ref 0), some (.int which), some (.int x), some (.int s), some (.int d), some (.int last), none], [], hC g (upd (upd (upd (upd z 12 d) 13 s) 14 ((a 6) (3 * x).toNatClampNeg)) 15 last) w a b)) rfl trivial ?_
  refine P0.b GX11_asks 4 (ob := []) (cf' := (if x = -1 then 44 else 48, [some (.ref 0), some (.int which), some (.int x), some (.int s), some (.int d), some (.int last), none], [.ref 0], hC g (upd (upd (upd (upd z 12 d) 13 s) 14 ((a 6) (3 * x).toNatClampNeg)) 15 last) w a b)) rfl trivial ?_
  rw [if_neg (show ¬ (x = -1) from hx)]
  refine P0.b GX11_asks 8 (ob := [vp_in ((3 * x) + 1) 18]) (cf' := (58, [some (.ref 0), some (.int which), some (.int x), some (.int s), some (.int d), some (.int last), none], [.int ((a 6) ((3 * x) + 1).toNatClampNeg), .ref 0], hC g (upd (upd (upd (upd z 12 d) 13 s) 14 ((a 6) (3 * x).toNatClampNeg)) 15 last) w a b)) rfl ⟨hi1, trivial⟩ ?_
  refine P0.cr (io := []) (as := [.int ((a 6) ((3 * x) + 1).toNatClampNeg)]) (rest := [.ref 0]) (hc := []) (hc1 := []) (r1 := some (.int (kb 7 ((a 6) ((3 * x) + 1).toNatClampNeg)))) (st' := [.int (kb 7 ((a 6) ((3 * x) + 1).toNatClampNeg)), .ref 0]) (h' := hC g (upd (upd (upd (upd z 12 d) 13 s) 14 ((a 6) (3 * x).toNatClampNeg)) 15 last) w a b) (d0 := 0) GX11_bitsOf kX11_asks_58 rfl rfl (Nat.le_of_ble_eq_true rfl) (Nat.le_of_ble_eq_true rfl) rfl trivial (e_X11_bitsOf hzz) (Nat.zero_le _) rfl (Nat.le_of_ble_eq_true rfl) (Nat.le_of_ble_eq_true rfl) rfl rfl ?_
  refine P0.b GX11_asks 1 (ob := []) (cf' := (64, [some (.ref 0), some (.int which), some (.int x), some (.int s), some (.int d), some (.int last), none], [], hC g (upd (upd (upd (upd (upd z 12 d) 13 s) 14 ((a 6) (3 * x).toNatClampNeg)) 15 last) 16 (kb 7 ((a 6) ((3 * x) + 1).toNatClampNeg))) w a b)) rfl trivial ?_
  refine P0.b GX11_asks 6 (ob := []) (cf' := (74, [some (.ref 0), some (.int which), some (.int x), some (.int s), some (.int d), some (.int last), none], [], hC g (upd (upd (upd (upd (upd (upd z 12 d) 13 s) 14 ((a 6) (3 * x).toNatClampNeg)) 15 last) 16 (kb 7 ((a 6) ((3 * x) + 1).toNatClampNeg))) 17 ((g 7) + s)) w a b)) rfl trivial ?_
  refine P0.b GX11_asks 4 (ob := []) (cf' := (80, [some (.ref 0), some (.int which), some (.int x), some (.int s), some (.int d), some (.int last), none], [.int which, .int (g 4), .ref 0], hC g (upd (upd (upd (upd (upd (upd z 12 d) 13 s) 14 ((a 6) (3 * x).toNatClampNeg)) 15 last) 16 (kb 7 ((a 6) ((3 * x) + 1).toNatClampNeg))) 17 ((g 7) + s)) w a b)) rfl trivial ?_
  rw [show g 4 = nI t from hr]
  refine P0.cs (as := [.ref 0, .int (nI t), .int which]) (rest := []) GX11_read kX11_asks_80 rfl ⟨_, _, rfl, rfl, .inl ⟨_, _, _, _, rfl, rfl⟩⟩ (Nat.le_of_ble_eq_true rfl) (Nat.le_of_ble_eq_true rfl) (P0.mono (e_X11_read (g := mx g (upd (upd (upd (upd (upd (upd z 12 d) 13 s) 14 ((a 6) (3 * x).toNatClampNeg)) 15 last) 16 (kb 7 ((a 6) ((3 * x) + 1).toNatClampNeg))) 17 ((g 7) + s))) (a := my a b) hS.1 rfl hS.2.1 hS.2.2.1 which (z 18) (z 19) (z 20) (z 21) (z 22) w (z 24) (z 25) (z 26)) (Nat.le_of_ble_eq_true rfl) (Nat.zero_le _) (Nat.zero_le _) (fun _ _ q => q)) (Nat.le_of_ble_eq_true rfl) (fun _ _ q => q.len) ?_
  rintro r2 h2 hq2
  obtain ⟨⟨x2, y2, z2⟩, hR2⟩ := hS.2.2.2 (ev d s (a 6 (3 * x).toNatClampNeg) last (kb 7 (a 6 (3 * x + 1).toNatClampNeg)) (g 7 + s))
  have hE2 : vA (mx g (upd (upd (upd (upd (upd (upd z 12 d) 13 s) 14 ((a 6) (3 * x).toNatClampNeg)) 15 last) 16 (kb 7 ((a 6) ((3 * x) + 1).toNatClampNeg))) 17 ((g 7) + s))) = vA (ev d s (a 6 (3 * x).toNatClampNeg) last (kb 7 (a 6 (3 * x + 1).toNatClampNeg)) (g 7 + s)) := vA_ev rfl rfl rfl rfl rfl rfl
  rw [rdT_eq hE2, hR2] at hq2
  obtain ⟨fr2, n2, e2, tk2, p2, w2, op2, fl2, rfl, rfl⟩ := hq2
  rw [hT_hC]
  show P0 _ _ _ _ (83, [some (.ref 0), some (.int which), some (.int x), some (.int s), some (.int d), some (.int last), none], [.int (if which = 0 then x2 else if which = 1 then y2 else z2)], hC g (zOf (upd (upd (upd (upd (upd (upd z 12 d) 13 s) 14 ((a 6) (3 * x).toNatClampNeg)) 15 last) 16 (kb 7 ((a 6) ((3 * x) + 1).toNatClampNeg))) 17 ((g 7) + s)) fr2 n2 e2 tk2 p2 op2 0 fl2) w2 a b) _
  refine P0.b GX11_asks 5 (ob := []) (cf' := (if which = 2 then 92 else 97, [some (.ref 0), some (.int which), some (.int x), some (.int s), some (.int d), some (.int last), some (.int (if which = 0 then x2 else if which = 1 then y2 else z2))], [.int (if which = 0 then x2 else if which = 1 then y2 else z2)], hC g (zOf (upd (upd (upd (upd (upd (upd z 12 d) 13 s) 14 ((a 6) (3 * x).toNatClampNeg)) 15 last) 16 (kb 7 ((a 6) ((3 * x) + 1).toNatClampNeg))) 17 ((g 7) + s)) fr2 n2 e2 tk2 p2 op2 0 fl2) w2 a b)) rfl trivial ?_
  refine P0.if (fun h1 => ?_) (fun h1 => ?_)
  · refine P0.b GX11_asks 3 (ob := []) (cf' := (100, [some (.ref 0), some (.int which), some (.int x), some (.int s), some (.int d), some (.int last), some (.int (if which = 0 then x2 else if which = 1 then y2 else z2))], [.int 99, .int (-99), .int (if which = 0 then x2 else if which = 1 then y2 else z2)], hC g (zOf (upd (upd (upd (upd (upd (upd z 12 d) 13 s) 14 ((a 6) (3 * x).toNatClampNeg)) 15 last) 16 (kb 7 ((a 6) ((3 * x) + 1).toNatClampNeg))) 17 ((g 7) + s)) fr2 n2 e2 tk2 p2 op2 0 fl2) w2 a b)) rfl trivial ?_
    refine P0.cr (io := []) (as := [.int (if which = 0 then x2 else if which = 1 then y2 else z2), .int (-99), .int 99]) (rest := []) (hc := []) (hc1 := []) (r1 := some (.int (if (if which = 0 then x2 else if which = 1 then y2 else z2) < (-99) then (-99) else if 99 < (if which = 0 then x2 else if which = 1 then y2 else z2) then 99 else (if which = 0 then x2 else if which = 1 then y2 else z2)))) (st' := [.int (if (if which = 0 then x2 else if which = 1 then y2 else z2) < (-99) then (-99) else if 99 < (if which = 0 then x2 else if which = 1 then y2 else z2) then 99 else (if which = 0 then x2 else if which = 1 then y2 else z2))]) (h' := hC g (zOf (upd (upd (upd (upd (upd (upd z 12 d) 13 s) 14 ((a 6) (3 * x).toNatClampNeg)) 15 last) 16 (kb 7 ((a 6) ((3 * x) + 1).toNatClampNeg))) 17 ((g 7) + s)) fr2 n2 e2 tk2 p2 op2 0 fl2) w2 a b) (d0 := 0) GX11_within kX11_asks_100 rfl rfl (Nat.le_of_ble_eq_true rfl) (Nat.le_of_ble_eq_true rfl) rfl trivial (e_X11_within (if which = 0 then x2 else if which = 1 then y2 else z2) (-99) 99) (Nat.le_of_ble_eq_true rfl) rfl (Nat.le_of_ble_eq_true rfl) (Nat.le_of_ble_eq_true rfl) rfl rfl ?_
    exact P0.ri (by decide +kernel) rfl rfl ⟨_, _, by rw [hR2]; unfold cut; rw [if_pos h1]; rfl, rfl⟩
  · refine P0.b GX11_asks 2 (ob := []) (cf' := (100, [some (.ref 0), some (.int which), some (.int x), some (.int s), some (.int d), some (.int last), some (.int (if which = 0 then x2 else if which = 1 then y2 else z2))], [.int 99, .int 0, .int (if which = 0 then x2 else if which = 1 then y2 else z2)], hC g (zOf (upd (upd (upd (upd (upd (upd z 12 d) 13 s) 14 ((a 6) (3 * x).toNatClampNeg)) 15 last) 16 (kb 7 ((a 6) ((3 * x) + 1).toNatClampNeg))) 17 ((g 7) + s)) fr2 n2 e2 tk2 p2 op2 0 fl2) w2 a b)) rfl trivial ?_
    refine P0.cr (io := []) (as := [.int (if which = 0 then x2 else if which = 1 then y2 else z2), .int 0, .int 99]) (rest := []) (hc := []) (hc1 := []) (r1 := some (.int (if (if which = 0 then x2 else if which = 1 then y2 else z2) < 0 then 0 else if 99 < (if which = 0 then x2 else if which = 1 then y2 else z2) then 99 else (if which = 0 then x2 else if which = 1 then y2 else z2)))) (st' := [.int (if (if which = 0 then x2 else if which = 1 then y2 else z2) < 0 then 0 else if 99 < (if which = 0 then x2 else if which = 1 then y2 else z2) then 99 else (if which = 0 then x2 else if which = 1 then y2 else z2))]) (h' := hC g (zOf (upd (upd (upd (upd (upd (upd z 12 d) 13 s) 14 ((a 6) (3 * x).toNatClampNeg)) 15 last) 16 (kb 7 ((a 6) ((3 * x) + 1).toNatClampNeg))) 17 ((g 7) + s)) fr2 n2 e2 tk2 p2 op2 0 fl2) w2 a b) (d0 := 0) GX11_within kX11_asks_100 rfl rfl (Nat.le_of_ble_eq_true rfl) (Nat.le_of_ble_eq_true rfl) rfl trivial (e_X11_within (if which = 0 then x2 else if which = 1 then y2 else z2) 0 99) (Nat.le_of_ble_eq_true rfl) rfl (Nat.le_of_ble_eq_true rfl) (Nat.le_of_ble_eq_true rfl) rfl rfl ?_
    exact P0.ri (by decide +kernel) rfl rfl ⟨_, _, by rw [hR2]; unfold cut; rw [if_neg h1]; rfl, rfl⟩
