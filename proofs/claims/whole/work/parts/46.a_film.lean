/-! ===== laid by program (wip/tools) ===== -/
section NOW
variable {g z : Nat → Int32} {w : Int64} {a a0 b : Nat → Nat → Int32}
theorem e_now {t : Nat} (h1 : a 1 = a0 1) (h2 : a 2 = a0 2) (h4 : a 4 = a0 4) (h5 : a 5 = a0 5) (h6 : a 6 = a0 6) (hr : g 4 = nI t) (hS : Std1 a0 t) {x : Int32} (hx : WOK a0 x) {s : Int32} (hs : vp_in s 6) (hs1 : ¬ s = 0 → vp_in (s - 1) 6) : P0 44 0 0 mX11_saysNow (0, ent 3 [.ref 0, .int x, .int s], [], hC g z w a b) (fun r h' => ∃ z' w', r = some (.int (nowV a0 t (g 7) x s)) ∧ h' = hC g z' w' a b) := by
  have := e_X11_saysNow (g := g) (z := z) (w := w) (a := a) (b := b) hr (Std1.same h1 h2 hS) (WOK.same h6 hx) hs hs1
  rw [nowV_same h1 h2 h4 h5 h6] at this
  exact this
end NOW
/-- what is said of the six steps, onto a sheet; how many aren't NONE -/
def filF (says : Nat → Int32) (i : Nat) : Nat → Int32 × (Nat → Int32) → Int32 × (Nat → Int32) := fun k p => (p.1 + (if says k = -1 then 0 else 1), upd p.2 (40 * i + k) (says k))
theorem fil_a {says : Nat → Int32} {i k : Nat} {p : Int32 × (Nat → Int32)} (h : says k = -1) : (p.1 + 0, upd p.2 (40 * i + k) (says k)) = filF says i k p := by unfold filF; rw [if_pos h]
theorem fil_b {says : Nat → Int32} {i k : Nat} {p : Int32 × (Nat → Int32)} (h : ¬ says k = -1) : (p.1 + 1, upd p.2 (40 * i + k) (says k)) = filF says i k p := by unfold filF; rw [if_neg h]
set_option maxHeartbeats 1000000 in
theorem film_no {g z : Nat → Int32} {w : Int64} {a b : Nat → Nat → Int32} (s x : Int32) (h : ¬ ((0 ≤ s ∧ s ≤ 3) ∧ (0 ≤ x ∧ x ≤ g 11 - 1))) : P0 45 0 0 mX11_film (0, ent 5 [.ref 0, .int s, .int x], [], hC g z w a b) (fun r h' => r = some (.int (-2)) ∧ h' = hC g z w a b) := by
  refine P0.b GX11_film 1 (ob := []) (cf' := (1, [some (.ref 0), some (.int s), some (.int x), none, none], [.int s], hC g z w a b)) rfl trivial ?_
  refine P0.cr (io := []) (as := [.int s]) (rest := []) (hc := []) (hc1 := []) (r1 := some (.int (if 0 ≤ s ∧ s ≤ 3 then 1 else 0))) (st' := [.int (if 0 ≤ s ∧ s ≤ 3 then 1 else 0)]) (h' := hC g z w a b) (d0 := 1) GX11_isSheet kX11_film_1 rfl rfl (Nat.le_of_ble_eq_true rfl) (Nat.le_of_ble_eq_true rfl) rfl trivial (e_X11_isSheet s) (Nat.le_of_ble_eq_true rfl) rfl (Nat.le_of_ble_eq_true rfl) (Nat.le_of_ble_eq_true rfl) rfl rfl ?_
  refine P0.b GX11_film 1 (ob := []) (cf' := (if (if 0 ≤ s ∧ s ≤ 3 then 1 else 0) = 0 then 15 else 7, [some (.ref 0), some (.int s), some (.int x), none, none], [], hC g z w a b)) rfl trivial ?_
  refine P0.ifB (fun h1 => ?_) (fun h1 => ?_)
  · refine P0.b GX11_film 1 (ob := []) (cf' := (17, [some (.ref 0), some (.int s), some (.int x), none, none], [.int (-2)], hC g z w a b)) rfl trivial ?_
    exact P0.ri (by decide +kernel) rfl rfl ⟨rfl, rfl⟩
  · refine P0.b GX11_film 2 (ob := []) (cf' := (9, [some (.ref 0), some (.int s), some (.int x), none, none], [.int x, .ref 0], hC g z w a b)) rfl trivial ?_
    refine P0.cd (d0 := 1) (as := [.ref 0, .int x]) (rest := []) (r1 := some (.int (if 0 ≤ x ∧ x ≤ g 11 - 1 then 1 else 0))) (h1 := hC g z w a b) (st' := [.int (if 0 ≤ x ∧ x ≤ g 11 - 1 then 1 else 0)]) GX11_isWitness kX11_film_9 rfl ⟨_, _, rfl, rfl, .inl ⟨_, _, _, _, rfl, rfl⟩⟩ (Nat.le_of_ble_eq_true rfl) (Nat.le_of_ble_eq_true rfl) (e_X11_isWitness (g := mx g z) (w := w) (a := my a b) x) (Nat.le_of_ble_eq_true rfl) rfl (Nat.le_of_ble_eq_true rfl) rfl ?_
    refine P0.b GX11_film 1 (ob := []) (cf' := (if (if 0 ≤ x ∧ x ≤ g 11 - 1 then 1 else 0) = 0 then 15 else 18, [some (.ref 0), some (.int s), some (.int x), none, none], [], hC g z w a b)) rfl trivial ?_
    rw [if_neg (show ¬ (0 ≤ x ∧ x ≤ g 11 - 1) from fun q => h ⟨h1, q⟩), if_pos rfl]
    refine P0.b GX11_film 1 (ob := []) (cf' := (17, [some (.ref 0), some (.int s), some (.int x), none, none], [.int (-2)], hC g z w a b)) rfl trivial ?_
    exact P0.ri (by decide +kernel) rfl rfl ⟨rfl, rfl⟩
theorem wit_ok {g : Nat → Int32} {m x : Nat} (hm : g 11 = nI m) (hm6 : m ≤ 6) (hx : x < m) : 0 ≤ nI x ∧ nI x ≤ g 11 - 1 := by
  refine ⟨nI_pos' (by omega), ?_⟩
  rw [hm]
  obtain ⟨k, rfl⟩ : ∃ k, m = k + 1 := ⟨m - 1, by omega⟩
  rw [nI_pred]
  exact nI_le (by omega) (by omega)
set_option maxHeartbeats 1000000 in
theorem film_ok {g z : Nat → Int32} {w : Int64} {a b : Nat → Nat → Int32} {t m : Nat} (hr : g 4 = nI t) (hS : Std1 a t) (hm : g 11 = nI m) (hm6 : m ≤ 6) (hW : ∀ i, i < m → WOK a (nI i)) {i x : Nat} (hi : i < 4) (hx : x < m) : P0 45 0 0 mX11_film (0, ent 5 [.ref 0, .int (nI i), .int (nI x)], [], hC g z w a b) (fun r h' => ∃ z' w', r = some (.int (it (filF (fun k => nowV a t (g 7) (nI x) (nI k)) i) 6 (0, (it (zerF i) 6 (a 17)))).1) ∧ h' = hC g z' w' (up2 (up2 (up2 (up2 a 14 (upd (a 14) i 1)) 15 (upd (a 15) i 0)) 16 (upd (a 16) i (nI 6))) 17 ((it (filF (fun k => nowV a t (g 7) (nI x) (nI k)) i) 6 (0, (it (zerF i) 6 (a 17)))).2)) b) := by
  refine P0.b GX11_film 1 (ob := []) (cf' := (1, [some (.ref 0), some (.int (nI i)), some (.int (nI x)), none, none], [.int (nI i)], hC g z w a b)) rfl trivial ?_
  refine P0.cr (io := []) (as := [.int (nI i)]) (rest := []) (hc := []) (hc1 := []) (r1 := some (.int (if 0 ≤ nI i ∧ nI i ≤ 3 then 1 else 0))) (st' := [.int (if 0 ≤ nI i ∧ nI i ≤ 3 then 1 else 0)]) (h' := hC g z w a b) (d0 := 1) GX11_isSheet kX11_film_1 rfl rfl (Nat.le_of_ble_eq_true rfl) (Nat.le_of_ble_eq_true rfl) rfl trivial (e_X11_isSheet (nI i)) (Nat.le_of_ble_eq_true rfl) rfl (Nat.le_of_ble_eq_true rfl) (Nat.le_of_ble_eq_true rfl) rfl rfl ?_
  refine P0.b GX11_film 1 (ob := []) (cf' := (if (if 0 ≤ nI i ∧ nI i ≤ 3 then 1 else 0) = 0 then 15 else 7, [some (.ref 0), some (.int (nI i)), some (.int (nI x)), none, none], [], hC g z w a b)) rfl trivial ?_
  rw [if_pos (show 0 ≤ nI i ∧ nI i ≤ 3 from sh_ok hi), if_neg (by decide)]
  refine P0.b GX11_film 2 (ob := []) (cf' := (9, [some (.ref 0), some (.int (nI i)), some (.int (nI x)), none, none], [.int (nI x), .ref 0], hC g z w a b)) rfl trivial ?_
  refine P0.cd (d0 := 1) (as := [.ref 0, .int (nI x)]) (rest := []) (r1 := some (.int (if 0 ≤ nI x ∧ nI x ≤ g 11 - 1 then 1 else 0))) (h1 := hC g z w a b) (st' := [.int (if 0 ≤ nI x ∧ nI x ≤ g 11 - 1 then 1 else 0)]) GX11_isWitness kX11_film_9 rfl ⟨_, _, rfl, rfl, .inl ⟨_, _, _, _, rfl, rfl⟩⟩ (Nat.le_of_ble_eq_true rfl) (Nat.le_of_ble_eq_true rfl) (e_X11_isWitness (g := mx g z) (w := w) (a := my a b) (nI x)) (Nat.le_of_ble_eq_true rfl) rfl (Nat.le_of_ble_eq_true rfl) rfl ?_
  refine P0.b GX11_film 1 (ob := []) (cf' := (if (if 0 ≤ nI x ∧ nI x ≤ g 11 - 1 then 1 else 0) = 0 then 15 else 18, [some (.ref 0), some (.int (nI i)), some (.int (nI x)), none, none], [], hC g z w a b)) rfl trivial ?_
  rw [if_pos (show 0 ≤ nI x ∧ nI x ≤ g 11 - 1 from (wit_ok hm hm6 hx)), if_neg (by decide)]
  refine P0.b GX11_film 4 (ob := []) (cf' := (23, [some (.ref 0), some (.int (nI i)), some (.int (nI x)), none, none], [.int 6, .int 0, .int (nI i), .ref 0], hC g z w a b)) rfl trivial ?_
  refine P0.cd (d0 := 2) (as := [.ref 0, .int (nI i), .int 0, .int 6]) (rest := []) (r1 := some (.int 1)) (h1 := hC g z w (up2 (up2 (up2 (up2 a 14 (upd (a 14) i 1)) 15 (upd (a 15) i 0)) 16 (upd (a 16) i (nI 6))) 17 (it (zerF i) 6 (a 17))) b) (st' := [.int 1]) GX11_sheet kX11_film_23 rfl ⟨_, _, rfl, rfl, .inl ⟨_, _, _, _, rfl, rfl⟩⟩ (Nat.le_of_ble_eq_true rfl) (Nat.le_of_ble_eq_true rfl) (sheet_ok_0 hi (k := 6) (by decide)) (Nat.le_of_ble_eq_true rfl) rfl (Nat.le_of_ble_eq_true rfl) rfl ?_
  refine P0.b GX11_film 5 (ob := []) (cf' := (32, [some (.ref 0), some (.int (nI i)), some (.int (nI x)), some (.int 0), some (.int 0)], [], hC g z w (up2 (up2 (up2 (up2 a 14 (upd (a 14) i 1)) 15 (upd (a 15) i 0)) 16 (upd (a 16) i (nI 6))) 17 (it (zerF i) 6 (a 17))) b)) rfl trivial ?_
  refine P0.loopIZ (N := 6) (fun k v => v = it (filF (fun k => nowV a t (g 7) (nI x) (nI k)) i) k (0, (it (zerF i) 6 (a 17)))) (fun x103 v103 z103 w103 => (32, [some (.ref 0), some (.int (nI i)), some (.int (nI x)), some (.int v103.1), some (.int x103)], [], hC g z103 w103 (up2 (up2 (up2 (up2 a 14 (upd (a 14) i 1)) 15 (upd (a 15) i 0)) 16 (upd (a 16) i (nI 6))) 17 v103.2) b)) (fun i103 v103 hi103 z103 w103 hI103 hk103 => ?_) (fun v103 z103 w103 hI103 => ?_) 0 ((0 : Int32), (it (zerF i) 6 (a 17))) z w nI_0.symm rfl
  · show P0 _ _ _ _ (32, [some (.ref 0), some (.int (nI i)), some (.int (nI x)), some (.int v103.1), some (.int (nI i103))], [], hC g z103 w103 (up2 (up2 (up2 (up2 a 14 (upd (a 14) i 1)) 15 (upd (a 15) i 0)) 16 (upd (a 16) i (nI 6))) 17 v103.2) b) _
    refine P0.b GX11_film 3 (ob := []) (cf' := (if 6 ≤ nI i103 then 88 else 39, [some (.ref 0), some (.int (nI i)), some (.int (nI x)), some (.int v103.1), some (.int (nI i103))], [], hC g z103 w103 (up2 (up2 (up2 (up2 a 14 (upd (a 14) i 1)) 15 (upd (a 15) i 0)) 16 (upd (a 16) i (nI 6))) 17 v103.2) b)) rfl trivial ?_
    rw [if_neg (show ¬ (6 ≤ nI i103) from nI_ge hi103 (by decide))]
    refine P0.b GX11_film 8 (ob := []) (cf' := (51, [some (.ref 0), some (.int (nI i)), some (.int (nI x)), some (.int v103.1), some (.int (nI i103))], [.ref 0, .int ((40 * (nI i)) + (nI i103)), .ref 17], hC g z103 w103 (up2 (up2 (up2 (up2 a 14 (upd (a 14) i 1)) 15 (upd (a 15) i 0)) 16 (upd (a 16) i (nI 6))) 17 v103.2) b)) rfl trivial ?_
    rw [show (40 * (nI i) : Int32) = nI (40 * i) from pk_mul _ _]
    rw [show (nI (40 * i)) + (nI i103) = nI ((40 * i) + i103) from nI_add _ _]
    refine P0.b GX11_film 2 (ob := []) (cf' := (54, [some (.ref 0), some (.int (nI i)), some (.int (nI x)), some (.int v103.1), some (.int (nI i103))], [.int (nI i103), .int (nI x), .ref 0, .int (nI ((40 * i) + i103)), .ref 17], hC g z103 w103 (up2 (up2 (up2 (up2 a 14 (upd (a 14) i 1)) 15 (upd (a 15) i 0)) 16 (upd (a 16) i (nI 6))) 17 v103.2) b)) rfl trivial ?_
    refine P0.cs (as := [.ref 0, .int (nI x), .int (nI i103)]) (rest := [.int (nI ((40 * i) + i103)), .ref 17]) GX11_saysNow kX11_film_54 rfl ⟨_, _, rfl, rfl, .inl ⟨_, _, _, _, rfl, rfl⟩⟩ (Nat.le_of_ble_eq_true rfl) (Nat.le_of_ble_eq_true rfl) (P0.mono (e_now ((up2_n (by decide)).trans ((up2_n (by decide)).trans ((up2_n (by decide)).trans ((up2_n (by decide)).trans rfl)))) ((up2_n (by decide)).trans ((up2_n (by decide)).trans ((up2_n (by decide)).trans ((up2_n (by decide)).trans rfl)))) ((up2_n (by decide)).trans ((up2_n (by decide)).trans ((up2_n (by decide)).trans ((up2_n (by decide)).trans rfl)))) ((up2_n (by decide)).trans ((up2_n (by decide)).trans ((up2_n (by decide)).trans ((up2_n (by decide)).trans rfl)))) ((up2_n (by decide)).trans ((up2_n (by decide)).trans ((up2_n (by decide)).trans ((up2_n (by decide)).trans rfl)))) hr hS (hW _ hx) (row4 hi103) (row4' hi103)) (Nat.le_of_ble_eq_true rfl) (Nat.zero_le _) (Nat.zero_le _) (fun _ _ q => q)) (Nat.le_of_ble_eq_true rfl) (fun _ _ ⟨_, _, _, q⟩ => q ▸ rfl) ?_
    rintro _ _ ⟨z104, w104, rfl, rfl⟩
    show P0 _ _ _ _ (57, [some (.ref 0), some (.int (nI i)), some (.int (nI x)), some (.int v103.1), some (.int (nI i103))], [.int (nowV a t (g 7) (nI x) (nI i103)), .int (nI ((40 * i) + i103)), .ref 17], hC g z104 w104 (up2 (up2 (up2 (up2 a 14 (upd (a 14) i 1)) 15 (upd (a 15) i 0)) 16 (upd (a 16) i (nI 6))) 17 v103.2) b) _
    refine P0.b GX11_film 1 (ob := [vp_in (nI ((40 * i) + i103)) 160]) (cf' := (58, [some (.ref 0), some (.int (nI i)), some (.int (nI x)), some (.int v103.1), some (.int (nI i103))], [], hC g z104 w104 (up2 (up2 (up2 (up2 a 14 (upd (a 14) i 1)) 15 (upd (a 15) i 0)) 16 (upd (a 16) i (nI 6))) 17 (upd v103.2 (nI ((40 * i) + i103)).toNatClampNeg (nowV a t (g 7) (nI x) (nI i103)))) b)) rfl ⟨(nI_vp (by omega) (by decide)), trivial⟩ ?_
    rw [show (nI ((40 * i) + i103)).toNatClampNeg = ((40 * i) + i103) from nI_clamp (by omega)]
    refine P0.b GX11_film 8 (ob := []) (cf' := (70, [some (.ref 0), some (.int (nI i)), some (.int (nI x)), some (.int v103.1), some (.int (nI i103))], [.int ((40 * (nI i)) + (nI i103)), .ref 17, .int v103.1], hC g z104 w104 (up2 (up2 (up2 (up2 a 14 (upd (a 14) i 1)) 15 (upd (a 15) i 0)) 16 (upd (a 16) i (nI 6))) 17 (upd v103.2 ((40 * i) + i103) (nowV a t (g 7) (nI x) (nI i103)))) b)) rfl trivial ?_
    rw [show (40 * (nI i) : Int32) = nI (40 * i) from pk_mul _ _]
    rw [show (nI (40 * i)) + (nI i103) = nI ((40 * i) + i103) from nI_add _ _]
    refine P0.b GX11_film 3 (ob := [vp_in (nI ((40 * i) + i103)) 160]) (cf' := (if (upd v103.2 ((40 * i) + i103) (nowV a t (g 7) (nI x) (nI i103))) (nI ((40 * i) + i103)).toNatClampNeg = -1 then 75 else 79, [some (.ref 0), some (.int (nI i)), some (.int (nI x)), some (.int v103.1), some (.int (nI i103))], [.int v103.1], hC g z104 w104 (up2 (up2 (up2 (up2 a 14 (upd (a 14) i 1)) 15 (upd (a 15) i 0)) 16 (upd (a 16) i (nI 6))) 17 (upd v103.2 ((40 * i) + i103) (nowV a t (g 7) (nI x) (nI i103)))) b)) rfl ⟨(nI_vp (by omega) (by decide)), trivial⟩ ?_
    rw [show (nI ((40 * i) + i103)).toNatClampNeg = ((40 * i) + i103) from nI_clamp (by omega)]
    rw [show (upd v103.2 ((40 * i) + i103) (nowV a t (g 7) (nI x) (nI i103))) ((40 * i) + i103) = (nowV a t (g 7) (nI x) (nI i103)) from pk_us]
    refine P0.if (fun h1 => ?_) (fun h1 => ?_)
    · refine P0.b GX11_film 6 (ob := []) (cf' := (32, [some (.ref 0), some (.int (nI i)), some (.int (nI x)), some (.int (v103.1 + 0)), some (.int ((nI i103) + 1))], [], hC g z104 w104 (up2 (up2 (up2 (up2 a 14 (upd (a 14) i 1)) 15 (upd (a 15) i 0)) 16 (upd (a 16) i (nI 6))) 17 (upd v103.2 ((40 * i) + i103) (nowV a t (g 7) (nI x) (nI i103)))) b)) rfl trivial ?_
      rw [show (nI i103) + 1 = nI (i103 + 1) from nI_add _ _]
      exact hk103 _ (v103.1 + 0, upd v103.2 ((40 * i) + i103) (nowV a t (g 7) (nI x) (nI i103))) z104 w104 rfl (by rw [it_succ, ← hI103]; exact fil_a (says := fun k => nowV a t (g 7) (nI x) (nI k)) h1)
    · refine P0.b GX11_film 5 (ob := []) (cf' := (32, [some (.ref 0), some (.int (nI i)), some (.int (nI x)), some (.int (v103.1 + 1)), some (.int ((nI i103) + 1))], [], hC g z104 w104 (up2 (up2 (up2 (up2 a 14 (upd (a 14) i 1)) 15 (upd (a 15) i 0)) 16 (upd (a 16) i (nI 6))) 17 (upd v103.2 ((40 * i) + i103) (nowV a t (g 7) (nI x) (nI i103)))) b)) rfl trivial ?_
      rw [show (nI i103) + 1 = nI (i103 + 1) from nI_add _ _]
      exact hk103 _ (v103.1 + 1, upd v103.2 ((40 * i) + i103) (nowV a t (g 7) (nI x) (nI i103))) z104 w104 rfl (by rw [it_succ, ← hI103]; exact fil_b (says := fun k => nowV a t (g 7) (nI x) (nI k)) h1)
  · show P0 _ _ _ _ (32, [some (.ref 0), some (.int (nI i)), some (.int (nI x)), some (.int v103.1), some (.int 6)], [], hC g z103 w103 (up2 (up2 (up2 (up2 a 14 (upd (a 14) i 1)) 15 (upd (a 15) i 0)) 16 (upd (a 16) i (nI 6))) 17 v103.2) b) _
    refine P0.b GX11_film 3 (ob := []) (cf' := (if (6 : Int32) ≤ 6 then 88 else 39, [some (.ref 0), some (.int (nI i)), some (.int (nI x)), some (.int v103.1), some (.int 6)], [], hC g z103 w103 (up2 (up2 (up2 (up2 a 14 (upd (a 14) i 1)) 15 (upd (a 15) i 0)) 16 (upd (a 16) i (nI 6))) 17 v103.2) b)) rfl trivial ?_
    rw [if_pos (show ((6 : Int32) ≤ 6) from by decide)]
    refine P0.b GX11_film 1 (ob := []) (cf' := (89, [some (.ref 0), some (.int (nI i)), some (.int (nI x)), some (.int v103.1), some (.int 6)], [.int v103.1], hC g z103 w103 (up2 (up2 (up2 (up2 a 14 (upd (a 14) i 1)) 15 (upd (a 15) i 0)) 16 (upd (a 16) i (nI 6))) 17 v103.2) b)) rfl trivial ?_
    exact P0.ri (by decide +kernel) rfl rfl ⟨_, _, by rw [hI103], by rw [hI103]⟩
