/-! ===== laid by program (wip/tools) ===== -/
/-- a counted loop: S i x the state at its head at the i-th time, x the counter -/
theorem P0.loop {d mc ms : Nat} {M : MI} {Q : Option Value → PH → Prop} {α : Type} {N : Nat} (f : Nat → α → α) (a0 : α) (S : Int32 → α → CF) (hd : ∀ i, i < N → (∀ x v, x = nI (i + 1) → v = f i (it f i a0) → P0 d mc ms M (S x v) Q) → P0 d mc ms M (S (nI i) (it f i a0)) Q) (he : P0 d mc ms M (S (nI N) (it f N a0)) Q) : ∀ x v, x = nI 0 → v = a0 → P0 d mc ms M (S x v) Q := by
  have : ∀ k i, i + k = N → P0 d mc ms M (S (nI i) (it f i a0)) Q := by
    intro k
    induction k with
    | zero => intro i h; have : i = N := by omega
              subst this; exact he
    | succ k ih => intro i h; exact hd i (by omega) (fun x v hx hv => by rw [hx, hv]; exact ih (i + 1) (by omega))
  intro x v hx hv
  rw [hx, hv]
  exact this N 0 (by omega)
theorem P0.loopZ {d mc ms : Nat} {M : MI} {Q : Option Value → PH → Prop} {α : Type} {N : Nat} (f : Nat → α → α) (a0 : α) (S : Int32 → α → (Nat → Int32) → Int64 → CF) (hd : ∀ i, i < N → ∀ z w, (∀ x v z w, x = nI (i + 1) → v = f i (it f i a0) → P0 d mc ms M (S x v z w) Q) → P0 d mc ms M (S (nI i) (it f i a0) z w) Q) (he : ∀ z w, P0 d mc ms M (S (nI N) (it f N a0) z w) Q) : ∀ x v z w, x = nI 0 → v = a0 → P0 d mc ms M (S x v z w) Q := by
  have : ∀ k i, i + k = N → ∀ z w, P0 d mc ms M (S (nI i) (it f i a0) z w) Q := by
    intro k
    induction k with
    | zero => intro i h z w; have : i = N := by omega
              subst this; exact he z w
    | succ k ih => intro i h z w; exact hd i (by omega) z w (fun x v z w hx hv => by rw [hx, hv]; exact ih (i + 1) (by omega) z w)
  intro x v z w hx hv
  rw [hx, hv]
  exact this N 0 (by omega) z w
theorem nI_vp {i N : Nat} (h : i < N) (hN : N < 2 ^ 31) : vp_in (nI i) N := nI_in h hN
def doV (l s : Int32) : Int32 := (l >>> ((2 * (5 - s)) &&& 31)) &&& 3
def lastV (l s : Int32) : Int32 := if s = 0 then 0 else doV l (s - 1)
def digV (l : Int32) : Int32 := it (fun s v => 10 * v + doV l (nI s) + 1) 6 0
def spotV (w s last d : Int32) : Int32 := 16 * (6 * w + s) + 4 * last + d
def lifeV (f : Nat → Int32) : Int32 := it (fun s v => 4 * v + f (nI s).toNatClampNeg) 6 0
set_option maxHeartbeats 1000000 in
theorem e_X11_doing (l s : Int32) : P0 0 0 0 mX11_doing (0, ent 2 [.int l, .int s], [], []) (fun r h' => r = some (.int (doV l s)) ∧ h' = []) := by
  refine P0.b GX11_doing 9 (ob := []) (cf' := (9, [some (.int l), some (.int s)], [.int ((l >>> ((2 * (5 - s)) &&& 31)) &&& 3)], [])) rfl trivial ?_
  exact P0.ri (by decide +kernel) rfl rfl ⟨rfl, rfl⟩
set_option maxHeartbeats 1000000 in
theorem e_X11_lastOf (l s : Int32) : P0 1 0 0 mX11_lastOf (0, ent 2 [.int l, .int s], [], []) (fun r h' => r = some (.int (lastV l s)) ∧ h' = []) := by
  refine P0.b GX11_lastOf 2 (ob := []) (cf' := (if s = 0 then 4 else 8, [some (.int l), some (.int s)], [], [])) rfl trivial ?_
  refine P0.if (fun h1 => ?_) (fun h1 => ?_)
  · refine P0.b GX11_lastOf 2 (ob := []) (cf' := (15, [some (.int l), some (.int s)], [.int 0], [])) rfl trivial ?_
    exact P0.ri (by decide +kernel) rfl rfl ⟨by simp [lastV, h1], rfl⟩
  · refine P0.b GX11_lastOf 4 (ob := []) (cf' := (12, [some (.int l), some (.int s)], [.int (s - 1), .int l], [])) rfl trivial ?_
    refine P0.cr (io := []) (as := [.int l, .int (s - 1)]) (rest := []) (hc := []) (hc1 := []) (r1 := some (.int (doV l (s - 1)))) (st' := [.int (doV l (s - 1))]) (h' := []) (d0 := 0) GX11_doing kX11_lastOf_12 rfl rfl (Nat.le_of_ble_eq_true rfl) (Nat.le_of_ble_eq_true rfl) rfl trivial (e_X11_doing l (s - 1)) (Nat.le_of_ble_eq_true rfl) rfl (Nat.le_of_ble_eq_true rfl) (Nat.le_of_ble_eq_true rfl) rfl rfl ?_
    exact P0.ri (by decide +kernel) rfl rfl ⟨by simp [lastV, h1], rfl⟩
set_option maxHeartbeats 1000000 in
theorem e_X11_spot (w s last d : Int32) : P0 0 0 0 mX11_spot (0, ent 4 [.int w, .int s, .int last, .int d], [], []) (fun r h' => r = some (.int (spotV w s last d)) ∧ h' = []) := by
  refine P0.b GX11_spot 13 (ob := []) (cf' := (15, [some (.int w), some (.int s), some (.int last), some (.int d)], [.int (((16 * ((6 * w) + s)) + (4 * last)) + d)], [])) rfl trivial ?_
  exact P0.ri (by decide +kernel) rfl rfl ⟨rfl, rfl⟩
theorem e_X11_digits (l : Int32) : P0 1 0 0 mX11_digits (0, ent 3 [.int l], [], []) (fun r h' => r = some (.int (digV l)) ∧ h' = []) := by
  refine P0.b GX11_digits 4 (ob := []) (cf' := (4, [some (.int l), some (.int 0), some (.int 0)], [], [])) rfl trivial ?_
  refine P0.loop (N := 6) (fun s v => 10 * v + doV l (nI s) + 1) 0 (fun x7 v7 => (4, [some (.int l), some (.int v7), some (.int x7)], [], [])) (fun i7 hi7 hk7 => ?_) ?_ 0 0 nI_0.symm rfl
  · show P0 _ _ _ _ (4, [some (.int l), some (.int (it (fun s v => 10 * v + doV l (nI s) + 1) i7 0)), some (.int (nI i7))], [], []) _
    refine P0.b GX11_digits 3 (ob := []) (cf' := (if 6 ≤ nI i7 then 29 else 10, [some (.int l), some (.int (it (fun s v => 10 * v + doV l (nI s) + 1) i7 0)), some (.int (nI i7))], [], [])) rfl trivial ?_
    rw [if_neg (show ¬ (6 ≤ nI i7) from nI_ge hi7 (by decide))]
    refine P0.b GX11_digits 5 (ob := []) (cf' := (16, [some (.int l), some (.int (it (fun s v => 10 * v + doV l (nI s) + 1) i7 0)), some (.int (nI i7))], [.int (nI i7), .int l, .int (10 * (it (fun s v => 10 * v + doV l (nI s) + 1) i7 0))], [])) rfl trivial ?_
    refine P0.cr (io := []) (as := [.int l, .int (nI i7)]) (rest := [.int (10 * (it (fun s v => 10 * v + doV l (nI s) + 1) i7 0))]) (hc := []) (hc1 := []) (r1 := some (.int (doV l (nI i7)))) (st' := [.int (doV l (nI i7)), .int (10 * (it (fun s v => 10 * v + doV l (nI s) + 1) i7 0))]) (h' := []) (d0 := 0) GX11_doing kX11_digits_16 rfl rfl (Nat.le_of_ble_eq_true rfl) (Nat.le_of_ble_eq_true rfl) rfl trivial (e_X11_doing l (nI i7)) (Nat.le_of_ble_eq_true rfl) rfl (Nat.le_of_ble_eq_true rfl) (Nat.le_of_ble_eq_true rfl) rfl rfl ?_
    refine P0.b GX11_digits 6 (ob := []) (cf' := (4, [some (.int l), some (.int (((10 * (it (fun s v => 10 * v + doV l (nI s) + 1) i7 0)) + (doV l (nI i7))) + 1)), some (.int ((nI i7) + 1))], [], [])) rfl trivial ?_
    exact hk7 _ (((10 * (it (fun s v => 10 * v + doV l (nI s) + 1) i7 0)) + (doV l (nI i7))) + 1) (nI_1 _) rfl
  · show P0 _ _ _ _ (4, [some (.int l), some (.int (it (fun s v => 10 * v + doV l (nI s) + 1) 6 0)), some (.int 6)], [], []) _
    refine P0.b GX11_digits 4 (ob := []) (cf' := (30, [some (.int l), some (.int (it (fun s v => 10 * v + doV l (nI s) + 1) 6 0)), some (.int 6)], [.int (it (fun s v => 10 * v + doV l (nI s) + 1) 6 0)], [])) rfl trivial ?_
    exact P0.ri (by decide +kernel) rfl rfl ⟨rfl, rfl⟩
theorem e_X11_lifeNow {g z : Nat → Int32} {w : Int64} {a b : Nat → Nat → Int32} : P0 0 0 0 mX11_lifeNow (0, ent 3 [.ref 0], [], hC g z w a b) (fun r h' => r = some (.int (lifeV (a 4))) ∧ h' = hC g z w a b) := by
  refine P0.b GX11_lifeNow 4 (ob := []) (cf' := (4, [some (.ref 0), some (.int 0), some (.int 0)], [], hC g z w a b)) rfl trivial ?_
  refine P0.loop (N := 6) (fun s v => 4 * v + a 4 (nI s).toNatClampNeg) 0 (fun x8 v8 => (4, [some (.ref 0), some (.int v8), some (.int x8)], [], hC g z w a b)) (fun i8 hi8 hk8 => ?_) ?_ 0 0 nI_0.symm rfl
  · show P0 _ _ _ _ (4, [some (.ref 0), some (.int (it (fun s v => 4 * v + a 4 (nI s).toNatClampNeg) i8 0)), some (.int (nI i8))], [], hC g z w a b) _
    refine P0.b GX11_lifeNow 3 (ob := []) (cf' := (if 6 ≤ nI i8 then 27 else 10, [some (.ref 0), some (.int (it (fun s v => 4 * v + a 4 (nI s).toNatClampNeg) i8 0)), some (.int (nI i8))], [], hC g z w a b)) rfl trivial ?_
    rw [if_neg (show ¬ (6 ≤ nI i8) from nI_ge hi8 (by decide))]
    refine P0.b GX11_lifeNow 11 (ob := [vp_in (nI i8) 6]) (cf' := (4, [some (.ref 0), some (.int ((4 * (it (fun s v => 4 * v + a 4 (nI s).toNatClampNeg) i8 0)) + ((a 4) (nI i8).toNatClampNeg))), some (.int ((nI i8) + 1))], [], hC g z w a b)) rfl ⟨nI_vp (by assumption) (by decide), trivial⟩ ?_
    exact hk8 _ ((4 * (it (fun s v => 4 * v + a 4 (nI s).toNatClampNeg) i8 0)) + ((a 4) (nI i8).toNatClampNeg)) (nI_1 _) rfl
  · show P0 _ _ _ _ (4, [some (.ref 0), some (.int (it (fun s v => 4 * v + a 4 (nI s).toNatClampNeg) 6 0)), some (.int 6)], [], hC g z w a b) _
    refine P0.b GX11_lifeNow 4 (ob := []) (cf' := (28, [some (.ref 0), some (.int (it (fun s v => 4 * v + a 4 (nI s).toNatClampNeg) 6 0)), some (.int 6)], [.int (it (fun s v => 4 * v + a 4 (nI s).toNatClampNeg) 6 0)], hC g z w a b)) rfl trivial ?_
    exact P0.ri (by decide +kernel) rfl rfl ⟨rfl, rfl⟩
theorem e_X11_saysBy {g z : Nat → Int32} {w : Int64} {a b : Nat → Nat → Int32} (x s l : Int32) (hb : vp_in (spotV x s (lastV l s) (doV l s)) 576) : P0 2 0 0 mX11_saysBy (0, ent 4 [.ref 0, .int x, .int s, .int l], [], hC g z w a b) (fun r h' => r = some (.int (b 7 (spotV x s (lastV l s) (doV l s)).toNatClampNeg)) ∧ h' = hC g z w a b) := by
  refine P0.b GX11_saysBy 6 (ob := []) (cf' := (8, [some (.ref 0), some (.int x), some (.int s), some (.int l)], [.int s, .int l, .int s, .int x, .ref 7], hC g z w a b)) rfl trivial ?_
  refine P0.cr (io := []) (as := [.int l, .int s]) (rest := [.int s, .int x, .ref 7]) (hc := []) (hc1 := []) (r1 := some (.int (lastV l s))) (st' := [.int (lastV l s), .int s, .int x, .ref 7]) (h' := hC g z w a b) (d0 := 1) GX11_lastOf kX11_saysBy_8 rfl rfl (Nat.le_of_ble_eq_true rfl) (Nat.le_of_ble_eq_true rfl) rfl trivial (e_X11_lastOf l s) (Nat.le_of_ble_eq_true rfl) rfl (Nat.le_of_ble_eq_true rfl) (Nat.le_of_ble_eq_true rfl) rfl rfl ?_
  refine P0.b GX11_saysBy 2 (ob := []) (cf' := (13, [some (.ref 0), some (.int x), some (.int s), some (.int l)], [.int s, .int l, .int (lastV l s), .int s, .int x, .ref 7], hC g z w a b)) rfl trivial ?_
  refine P0.cr (io := []) (as := [.int l, .int s]) (rest := [.int (lastV l s), .int s, .int x, .ref 7]) (hc := []) (hc1 := []) (r1 := some (.int (doV l s))) (st' := [.int (doV l s), .int (lastV l s), .int s, .int x, .ref 7]) (h' := hC g z w a b) (d0 := 0) GX11_doing kX11_saysBy_13 rfl rfl (Nat.le_of_ble_eq_true rfl) (Nat.le_of_ble_eq_true rfl) rfl trivial (e_X11_doing l s) (Nat.le_of_ble_eq_true rfl) rfl (Nat.le_of_ble_eq_true rfl) (Nat.le_of_ble_eq_true rfl) rfl rfl ?_
  refine P0.cr (io := []) (as := [.int x, .int s, .int (lastV l s), .int (doV l s)]) (rest := [.ref 7]) (hc := []) (hc1 := []) (r1 := some (.int (spotV x s (lastV l s) (doV l s)))) (st' := [.int (spotV x s (lastV l s) (doV l s)), .ref 7]) (h' := hC g z w a b) (d0 := 0) GX11_spot kX11_saysBy_16 rfl rfl (Nat.le_of_ble_eq_true rfl) (Nat.le_of_ble_eq_true rfl) rfl trivial (e_X11_spot x s (lastV l s) (doV l s)) (Nat.le_of_ble_eq_true rfl) rfl (Nat.le_of_ble_eq_true rfl) (Nat.le_of_ble_eq_true rfl) rfl rfl ?_
  refine P0.b GX11_saysBy 1 (ob := [vp_in (spotV x s (lastV l s) (doV l s)) 576]) (cf' := (20, [some (.ref 0), some (.int x), some (.int s), some (.int l)], [.int ((b 7) (spotV x s (lastV l s) (doV l s)).toNatClampNeg)], hC g z w a b)) rfl ⟨hb, trivial⟩ ?_
  exact P0.ri (by decide +kernel) rfl rfl ⟨rfl, rfl⟩
