/-! ===== laid by program (wip/tools) ===== -/
def tJ0_len : List (Nat × POp) := [(0, oLdA 0 1),
  (1, oStrVal),
  (4, oStrLen),
  (5, oLdA 0 1),
  (9, oBin (fun x y => x >>> (y &&& 31)))]
abbrev mJ0_len : MI := (yJ0_length_8abf5, cJ0_length_8abf5, 1, (some .int), tJ0_len)
set_option maxRecDepth 20000 in
theorem GJ0_len : Good mJ0_len := ⟨GJ0_length_8abf5.1, GJ0_length_8abf5.2.1, inJ0, GJ0_length_8abf5.2.2.2.1, by decide, show ∀ q ∈ tJ0_len, Snd mJ0_len q.1 q.2 from
  sndC (sd_aload_n (hi := rfl) (hd := (by decide +kernel : decode cJ0_length_8abf5 0 = .ok (.aload_n 0, 1)))) (
   sndC (sd_strVal (hl := w_1585) (hd := (by decide +kernel : decode cJ0_length_8abf5 1 = .ok (.getfield 9, 3)))) (
   sndC (sd_strLen (hd := (by decide +kernel : decode cJ0_length_8abf5 4 = .ok (.arraylength, 1)))) (
   sndC (sd_aload_n (hi := rfl) (hd := (by decide +kernel : decode cJ0_length_8abf5 5 = .ok (.aload_n 0, 1)))) (
   sndC (sd_ishr (hd := (by decide +kernel : decode cJ0_length_8abf5 9 = .ok (.ishr, 1)))) (
   sndN)))))⟩
theorem kJ0_len_6 : CallAt mJ0_len 6 0 mJ0_coder_7d493 0 := kJ0_length_8abf5_6
theorem kX4_stands_1s : CallAt mX4_stands 1 0 mJ0_len 0 := kX4_stands_1
theorem kX4_stands_18s : CallAt mX4_stands 18 0 mJ0_len 0 := kX4_stands_18
def wq (q : Nat) : List Int32 := strB.getD q []
theorem nI_subA (a c : Nat) : nI (a + c) - nI a = nI c := by rw [nI_sub (by omega), Nat.add_sub_cancel_left]
theorem wd_no1 {ws : List Int32} {tp : Nat → Int32} {fr c L : Nat} (hL : ws.length = L) (h : ¬ nI L = nI c) : (0 : Int32) = if isWd ws tp fr (fr + c) = true then 1 else 0 := by
  rw [if_neg]
  intro z
  have := (isWd_iff.mp z).1
  exact h (by rw [show L = c by omega])
theorem wd_no2 {ws : List Int32} {tp : Nat → Int32} {fr c i L : Nat} (hL : ws.length = L) (hi : i < L) (h : ¬ ws.getD i 0 = tp (fr + i)) : (0 : Int32) = if isWd ws tp fr (fr + c) = true then 1 else 0 := by
  rw [if_neg]
  intro z
  exact h ((isWd_iff.mp z).2 i (by omega)).symm
theorem wd_yes {ws : List Int32} {tp : Nat → Int32} {fr c L : Nat} (hL : ws.length = L) (hc : c = L) (h : ∀ j, j < L → ws.getD j 0 = tp (fr + j)) : (1 : Int32) = if isWd ws tp fr (fr + c) = true then 1 else 0 := by
  rw [if_pos]
  exact isWd_iff.mpr ⟨by omega, fun i hi => (h i (by omega)).symm⟩
theorem wd_c {c L : Nat} (hc : c ≤ 160) (hL : L ≤ 160) (h : nI L = nI c) : c = L := Nat.le_antisymm ((nI_leI (by omega) (by omega)).mp (h ▸ Int32.le_refl _)) ((nI_leI (by omega) (by omega)).mp (h ▸ Int32.le_refl _))
theorem all_s {P : Nat → Prop} {i : Nat} (h : ∀ j, j < i → P j) (hi : P i) : ∀ j, j < i + 1 → P j := fun j hj => by
  rcases Nat.lt_or_ge j i with z | z
  · exact h j z
  · rw [show j = i by omega]; exact hi
set_option maxHeartbeats 1000000 in
theorem chk3_n {i n : Nat} (hi : i < n) (hn : n < 2 ^ 31) : P0 0 0 0 mJ3_checkIndex_8e157 (0, ent 3 [.int (nI i), .int (nI n), .ref 999999], [], []) (fun r h' => r = some (.int (nI i)) ∧ h' = []) := by
  refine P0.b GJ3_checkIndex_8e157 2 (ob := []) (cf' := (if nI i < 0 then 9 else 4, [some (.int (nI i)), some (.int (nI n)), some (.ref 999999)], [], [])) rfl trivial ?_
  rw [if_neg (show ¬ (nI i < 0) from nI_pos (by omega))]
  refine P0.b GJ3_checkIndex_8e157 3 (ob := []) (cf' := (if nI i < nI n then 16 else 9, [some (.int (nI i)), some (.int (nI n)), some (.ref 999999)], [], [])) rfl trivial ?_
  rw [if_pos (show nI i < nI n from (nI_ltI (by omega) hn).mpr hi)]
  refine P0.b GJ3_checkIndex_8e157 1 (ob := []) (cf' := (17, [some (.int (nI i)), some (.int (nI n)), some (.ref 999999)], [.int (nI i)], [])) rfl trivial ?_
  exact P0.ri (by decide +kernel) rfl rfl ⟨rfl, rfl⟩
set_option maxHeartbeats 1000000 in
theorem chk3_u {i n : Nat} (hi : i < n) (hn : n < 2 ^ 31) : P0 0 0 0 mJ3_checkIndex_8e157 (0, ent 3 [.int (nI i), .int (nI n), .null], [], []) (fun r h' => r = some (.int (nI i)) ∧ h' = []) := by
  refine P0.b GJ3_checkIndex_8e157 2 (ob := []) (cf' := (if nI i < 0 then 9 else 4, [some (.int (nI i)), some (.int (nI n)), some (.null)], [], [])) rfl trivial ?_
  rw [if_neg (show ¬ (nI i < 0) from nI_pos (by omega))]
  refine P0.b GJ3_checkIndex_8e157 3 (ob := []) (cf' := (if nI i < nI n then 16 else 9, [some (.int (nI i)), some (.int (nI n)), some (.null)], [], [])) rfl trivial ?_
  rw [if_pos (show nI i < nI n from (nI_ltI (by omega) hn).mpr hi)]
  refine P0.b GJ3_checkIndex_8e157 1 (ob := []) (cf' := (17, [some (.int (nI i)), some (.int (nI n)), some (.null)], [.int (nI i)], [])) rfl trivial ?_
  exact P0.ri (by decide +kernel) rfl rfl ⟨rfl, rfl⟩
theorem w_sio : Cond.fieldLink "java/lang/String" 1053 RJ3 "SIOOBE_FORMATTER" "Ljava/util/function/BiFunction;" ∈ lw_U := inU (List.mem_of_getElem? (i := 355) (by decide +kernel)) (by decide +kernel)
theorem d_sio : decode cJ0_checkIndex_df160 2 = .ok (.getstatic 1053, 3) := by decide +kernel
/-- the formatter is null, or an object: nothing hangs on it -/
theorem sio_go {d : Nat} {ls : List (Option Value)} {st : List Value} (hls : ∀ o ∈ ls, ∀ v, o = some v → ∃ x, v = .int x) (hst : ∀ v ∈ st, ∃ x, v = .int x)
    (h1 : P0 d 0 0 mJ0_checkIndex_df160 (5, ls, .null :: st, []) (fun r h' => r = none ∧ h' = []))
    (h2 : P0 d 0 0 mJ0_checkIndex_df160 (5, ls, .ref 999999 :: st, []) (fun r h' => r = none ∧ h' = [])) :
    P0 d 0 0 mJ0_checkIndex_df160 (2, ls, st, []) (fun r h' => r = none ∧ h' = []) := by
  intro d' hd' p l e s m args below meth c D cA A MC MS Qc F hr hlk hN ad H locs cells slots Ls g1 g2 L kk
  obtain ⟨hx, hb, hml, hown, hts, hin, hfr, hlo⟩ := id F
  obtain ⟨hK, hP, hD, hS, hL, hSx, hA⟩ := id L
  rcases hSx.2.2.2.2.2 with hZ | ⟨t, hZ⟩
  · exact va_gets hx hb hZ hS hown (hts _ w_sio) (fun _ h9 => h9) d_sio (h1 d' hd' p l e s m args below meth c D cA A MC MS Qc F hr hlk hN ad H locs cells slots Ls g1 g2 L kk)
  · obtain ⟨ad2, ha⟩ : ∃ ad2 : Nat → Nat, ad2 = fun q : Nat => if q = 999999 then t else ad q := ⟨_, rfl⟩
    have hb2 : ∀ q, sB ≤ q → ad2 q = ad q := by
      intro q hq
      have hq2 : 1000000 ≤ q := hq
      rw [ha]
      exact if_neg (by omega)
    have ht2 : ad2 999999 = t := by rw [ha]; exact if_pos rfl
    have hL2 : LR ad2 mJ0_checkIndex_df160.2.2.1 Ls ls := ⟨hL.1, hL.2.1, hL.2.2.1, fun i v hi => by
      obtain ⟨x, rfl⟩ := hls _ (List.mem_of_getElem? hi) v rfl
      exact hL.2.2.2 i _ hi⟩
    have hs2 : st.map (trV ad2) = st.map (trV ad) := List.map_congr_left (fun v hv => by
      obtain ⟨x, rfl⟩ := hst v hv
      rfl)
    have k2 := h2 d' hd' p l e s m args below meth c D cA A MC MS Qc F hr hlk hN ad2 H locs cells slots Ls g1 g2 ⟨hK, hP, hD, hS, hL2, hSx.ext hb2, hA⟩ (fun r h' ad' H' locs' q hlen hE hP' hD' hS' => by
      obtain ⟨rfl, rfl⟩ := q
      exact kk none [] ad H' locs' ⟨rfl, rfl⟩ (Nat.le_refl _) Ext.rf hP' hD' hS')
    dsimp only at k2
    rw [List.map_cons, hs2, show trV ad2 (.ref 999999) = .ref t from congrArg Value.ref ht2] at k2
    exact va_gets hx hb hZ hS hown (hts _ w_sio) (fun _ h9 => h9) d_sio k2
set_option maxHeartbeats 1000000 in
theorem chk_n {i n : Nat} (hi : i < n) (hn : n < 2 ^ 31) : P0 1 0 0 mJ0_checkIndex_df160 (0, ent 2 [.int (nI i), .int (nI n)], [], []) (fun r h' => r = none ∧ h' = []) := by
  refine P0.b GJ0_checkIndex_df160 2 (ob := []) (cf' := (2, [some (.int (nI i)), some (.int (nI n))], [.int (nI n), .int (nI i)], [])) rfl trivial ?_
  refine sio_go (fun o ho v hv => ?_) (fun v hv => ?_) ?_ ?_
  · rcases List.mem_cons.mp ho with rfl | ho
    · cases hv; exact ⟨_, rfl⟩
    · rcases List.mem_cons.mp ho with rfl | ho
      · cases hv; exact ⟨_, rfl⟩
      · cases ho
  · rcases List.mem_cons.mp hv with rfl | hv
    · exact ⟨_, rfl⟩
    · rcases List.mem_cons.mp hv with rfl | hv
      · exact ⟨_, rfl⟩
      · cases hv
  · refine P0.cr (io := []) (as := [.int (nI i), .int (nI n), .null]) (rest := []) (hc := []) (hc1 := []) (r1 := some (.int (nI i))) (st' := [.int (nI i)]) (h' := []) (d0 := 0) GJ3_checkIndex_8e157 kJ0_checkIndex_df160_5 rfl rfl (Nat.le_of_ble_eq_true rfl) (Nat.le_of_ble_eq_true rfl) rfl trivial (chk3_u hi hn) (Nat.le_of_ble_eq_true rfl) rfl (Nat.le_of_ble_eq_true rfl) (Nat.le_of_ble_eq_true rfl) rfl rfl ?_
    refine P0.b GJ0_checkIndex_df160 1 (ob := []) (cf' := (9, [some (.int (nI i)), some (.int (nI n))], [], [])) rfl trivial ?_
    exact P0.rv (by decide +kernel) rfl ⟨rfl, rfl⟩
  · refine P0.cr (io := []) (as := [.int (nI i), .int (nI n), .ref 999999]) (rest := []) (hc := []) (hc1 := []) (r1 := some (.int (nI i))) (st' := [.int (nI i)]) (h' := []) (d0 := 0) GJ3_checkIndex_8e157 kJ0_checkIndex_df160_5 rfl rfl (Nat.le_of_ble_eq_true rfl) (Nat.le_of_ble_eq_true rfl) rfl trivial (chk3_n hi hn) (Nat.le_of_ble_eq_true rfl) rfl (Nat.le_of_ble_eq_true rfl) (Nat.le_of_ble_eq_true rfl) rfl rfl ?_
    refine P0.b GJ0_checkIndex_df160 1 (ob := []) (cf' := (9, [some (.int (nI i)), some (.int (nI n))], [], [])) rfl trivial ?_
    exact P0.rv (by decide +kernel) rfl ⟨rfl, rfl⟩
set_option maxHeartbeats 1000000 in
theorem coder_1 : P0 0 0 0 mJ0_coder_7d493 (0, ent 1 [.ref (sB + 1)], [], []) (fun r h' => r = some (.int 0) ∧ h' = []) := by
  refine P0.b GJ0_coder_7d493 2 (ob := []) (cf' := (if (1 : Int32) = 0 then 13 else 6, [some (.ref (sB + 1))], [], [])) rfl trivial ?_
  rw [if_neg (show ¬ ((1 : Int32) = 0) from by decide)]
  refine P0.b GJ0_coder_7d493 3 (ob := []) (cf' := (14, [some (.ref (sB + 1))], [.int 0], [])) rfl trivial ?_
  exact P0.ri (by decide +kernel) rfl (by rfl) ⟨rfl, rfl⟩
set_option maxHeartbeats 1000000 in
theorem latin_1 : P0 0 0 0 mJ0_isLatin1_aae02 (0, ent 1 [.ref (sB + 1)], [], []) (fun r h' => r = some (.int 1) ∧ h' = []) := by
  refine P0.b GJ0_isLatin1_aae02 2 (ob := []) (cf' := (if (1 : Int32) = 0 then 17 else 6, [some (.ref (sB + 1))], [], [])) rfl trivial ?_
  rw [if_neg (show ¬ ((1 : Int32) = 0) from by decide)]
  refine P0.b GJ0_isLatin1_aae02 3 (ob := []) (cf' := (if (0 : Int32) = 0 then 13 else 17, [some (.ref (sB + 1))], [], [])) rfl trivial ?_
  rw [if_pos (show ((0 : Int32) = 0) from by decide)]
  refine P0.b GJ0_isLatin1_aae02 2 (ob := []) (cf' := (18, [some (.ref (sB + 1))], [.int 1], [])) rfl trivial ?_
  exact P0.ri (by decide +kernel) rfl (by rfl) ⟨rfl, rfl⟩
set_option maxHeartbeats 1000000 in
theorem len_1 : P0 1 0 0 mJ0_len (0, ent 1 [.ref (sB + 1)], [], []) (fun r h' => r = some (.int 5) ∧ h' = []) := by
  refine P0.b GJ0_len 4 (ob := []) (cf' := (6, [some (.ref (sB + 1))], [.ref (sB + 1), .int 5], [])) rfl trivial ?_
  refine P0.cr (io := []) (as := [.ref (sB + 1)]) (rest := [.int 5]) (hc := []) (hc1 := []) (r1 := some (.int 0)) (st' := [.int 0, .int 5]) (h' := []) (d0 := 0) GJ0_coder_7d493 kJ0_len_6 rfl ⟨_, _, rfl, rfl, .inr ⟨rfl, Nat.le_of_ble_eq_true rfl, Nat.le_of_ble_eq_true rfl⟩⟩ (Nat.le_of_ble_eq_true rfl) (Nat.le_of_ble_eq_true rfl) rfl trivial (coder_1) (Nat.le_of_ble_eq_true rfl) rfl (Nat.le_of_ble_eq_true rfl) (Nat.le_of_ble_eq_true rfl) rfl rfl ?_
  refine P0.b GJ0_len 1 (ob := []) (cf' := (10, [some (.ref (sB + 1))], [.int ((5 : Int32) >>> (0 &&& 31))], [])) rfl trivial ?_
  exact P0.ri (by decide +kernel) rfl rfl ⟨by decide +kernel, rfl⟩
theorem ch_1 : ∀ i, i < 5 → (((strB.getD 1 []).getD i 0 &&& 255).toUInt32 % 65536).toInt32 = (wq 1).getD i 0 := by decide +kernel
theorem wqL_1 : (wq 1).length = 5 := by decide
theorem chn_1 : ∀ i, i < 5 → narrow .char (.int ((wq 1).getD i 0)) = .int ((wq 1).getD i 0) := by decide +kernel
set_option maxHeartbeats 1000000 in
theorem latAt_1 {i : Nat} (hi : i < 5) : P0 2 0 0 mJ1_charAt_3b067 (0, ent 2 [.ref (sB + 101), .int (nI i)], [], []) (fun r h' => r = some (.int ((wq 1).getD i 0)) ∧ h' = []) := by
  refine P0.b GJ1_charAt_3b067 3 (ob := []) (cf' := (3, [some (.ref (sB + 101)), some (.int (nI i))], [.int 5, .int (nI i)], [])) rfl trivial ?_
  refine P0.cr (io := []) (as := [.int (nI i), .int 5]) (rest := []) (hc := []) (hc1 := []) (r1 := none) (st' := []) (h' := []) (d0 := 1) GJ0_checkIndex_df160 kJ1_charAt_3b067_3 rfl rfl (Nat.le_of_ble_eq_true rfl) (Nat.le_of_ble_eq_true rfl) rfl trivial (chk_n hi (by decide)) (Nat.le_of_ble_eq_true rfl) rfl (Nat.le_of_ble_eq_true rfl) (Nat.le_of_ble_eq_true rfl) rfl rfl ?_
  refine P0.b GJ1_charAt_3b067 6 (ob := [vp_in (nI i) 5]) (cf' := (14, [some (.ref (sB + 101)), some (.int (nI i))], [.int (((((strB.getD 1 []).getD (nI i).toNatClampNeg 0) &&& 255).toUInt32 % 65536).toInt32)], [])) rfl ⟨nI_vp (by omega) (by decide), trivial⟩ ?_
  rw [show (nI i).toNatClampNeg = i from nI_clamp (by omega)]
  exact P0.ri (by decide +kernel) rfl (by rw [ch_1 i hi]; exact chn_1 i hi) ⟨congrArg (fun x => some (Value.int x)) (ch_1 i hi), rfl⟩
set_option maxHeartbeats 1000000 in
theorem chAt_1 {i : Nat} (hi : i < 5) : P0 3 0 0 mJ0_charAt_5068e (0, ent 2 [.ref (sB + 1), .int (nI i)], [], []) (fun r h' => r = some (.int ((wq 1).getD i 0)) ∧ h' = []) := by
  refine P0.b GJ0_charAt_5068e 1 (ob := []) (cf' := (1, [some (.ref (sB + 1)), some (.int (nI i))], [.ref (sB + 1)], [])) rfl trivial ?_
  refine P0.cr (io := []) (as := [.ref (sB + 1)]) (rest := []) (hc := []) (hc1 := []) (r1 := some (.int 1)) (st' := [.int 1]) (h' := []) (d0 := 0) GJ0_isLatin1_aae02 kJ0_charAt_5068e_1 rfl ⟨_, _, rfl, rfl, .inr ⟨rfl, Nat.le_of_ble_eq_true rfl, Nat.le_of_ble_eq_true rfl⟩⟩ (Nat.le_of_ble_eq_true rfl) (Nat.le_of_ble_eq_true rfl) rfl trivial (latin_1) (Nat.le_of_ble_eq_true rfl) rfl (Nat.le_of_ble_eq_true rfl) (Nat.le_of_ble_eq_true rfl) rfl rfl ?_
  refine P0.b GJ0_charAt_5068e 1 (ob := []) (cf' := (if (1 : Int32) = 0 then 16 else 7, [some (.ref (sB + 1)), some (.int (nI i))], [], [])) rfl trivial ?_
  rw [if_neg (show ¬ ((1 : Int32) = 0) from by decide)]
  refine P0.b GJ0_charAt_5068e 3 (ob := []) (cf' := (12, [some (.ref (sB + 1)), some (.int (nI i))], [.int (nI i), .ref (sB + 101)], [])) rfl trivial ?_
  refine P0.cr (io := []) (as := [.ref (sB + 101), .int (nI i)]) (rest := []) (hc := []) (hc1 := []) (r1 := some (.int ((wq 1).getD i 0))) (st' := [.int ((wq 1).getD i 0)]) (h' := []) (d0 := 2) GJ1_charAt_3b067 kJ0_charAt_5068e_12 rfl rfl (Nat.le_of_ble_eq_true rfl) (Nat.le_of_ble_eq_true rfl) rfl trivial (latAt_1 hi) (Nat.le_of_ble_eq_true rfl) rfl (Nat.le_of_ble_eq_true rfl) (Nat.le_of_ble_eq_true rfl) rfl rfl ?_
  exact P0.ri (by decide +kernel) rfl (by exact chn_1 i hi) ⟨rfl, rfl⟩
set_option maxHeartbeats 1000000 in
theorem stands_1 {tp : Nat → Int32} {fr c : Nat} (hfc : fr + c ≤ 160) : P0 4 0 0 mX4_stands (0, ent 5 [.ref (sB + 1), .ref 0, .int (nI fr), .int (nI (fr + c))], [], [pI 160 tp]) (fun r h' => r = some (.int (if isWd (wq 1) tp fr (fr + c) = true then 1 else 0)) ∧ h' = [pI 160 tp]) := by
  refine P0.b GX4_stands 1 (ob := []) (cf' := (1, [some (.ref (sB + 1)), some (.ref 0), some (.int (nI fr)), some (.int (nI (fr + c))), none], [.ref (sB + 1)], [pI 160 tp])) rfl trivial ?_
  refine P0.cr (io := []) (as := [.ref (sB + 1)]) (rest := []) (hc := []) (hc1 := []) (r1 := some (.int 5)) (st' := [.int 5]) (h' := [pI 160 tp]) (d0 := 1) GJ0_len kX4_stands_1s rfl ⟨_, _, rfl, rfl, .inr ⟨rfl, Nat.le_of_ble_eq_true rfl, Nat.le_of_ble_eq_true rfl⟩⟩ (Nat.le_of_ble_eq_true rfl) (Nat.le_of_ble_eq_true rfl) rfl trivial (len_1) (Nat.le_of_ble_eq_true rfl) rfl (Nat.le_of_ble_eq_true rfl) (Nat.le_of_ble_eq_true rfl) rfl rfl ?_
  refine P0.b GX4_stands 4 (ob := []) (cf' := (if 5 = (nI (fr + c)) - (nI fr) then 12 else 10, [some (.ref (sB + 1)), some (.ref 0), some (.int (nI fr)), some (.int (nI (fr + c))), none], [], [pI 160 tp])) rfl trivial ?_
  rw [show (nI (fr + c)) - (nI fr) = nI c from nI_subA fr c]
  refine P0.if (fun h1 => ?_) (fun h1 => ?_)
  · refine P0.b GX4_stands 2 (ob := []) (cf' := (15, [some (.ref (sB + 1)), some (.ref 0), some (.int (nI fr)), some (.int (nI (fr + c))), some (.int 0)], [], [pI 160 tp])) rfl trivial ?_
    have hc5 : c = 5 := wd_c (by omega) (by decide) h1
    refine P0.loopI (N := 5) (fun i (_ : Unit) => ∀ j, j < i → (wq 1).getD j 0 = tp (fr + j)) (fun x160 v160 => (15, [some (.ref (sB + 1)), some (.ref 0), some (.int (nI fr)), some (.int (nI (fr + c))), some (.int x160)], [], [pI 160 tp])) (fun i160 v160 hi160 hI160 hk160 => ?_) (fun v160 hI160 => ?_) 0 () nI_0.symm (fun j hj => absurd hj (Nat.not_lt_zero j))
    · show P0 _ _ _ _ (15, [some (.ref (sB + 1)), some (.ref 0), some (.int (nI fr)), some (.int (nI (fr + c))), some (.int (nI i160))], [], [pI 160 tp]) _
      refine P0.b GX4_stands 2 (ob := []) (cf' := (18, [some (.ref (sB + 1)), some (.ref 0), some (.int (nI fr)), some (.int (nI (fr + c))), some (.int (nI i160))], [.ref (sB + 1), .int (nI i160)], [pI 160 tp])) rfl trivial ?_
      refine P0.cr (io := []) (as := [.ref (sB + 1)]) (rest := [.int (nI i160)]) (hc := []) (hc1 := []) (r1 := some (.int 5)) (st' := [.int 5, .int (nI i160)]) (h' := [pI 160 tp]) (d0 := 1) GJ0_len kX4_stands_18s rfl ⟨_, _, rfl, rfl, .inr ⟨rfl, Nat.le_of_ble_eq_true rfl, Nat.le_of_ble_eq_true rfl⟩⟩ (Nat.le_of_ble_eq_true rfl) (Nat.le_of_ble_eq_true rfl) rfl trivial (len_1) (Nat.le_of_ble_eq_true rfl) rfl (Nat.le_of_ble_eq_true rfl) (Nat.le_of_ble_eq_true rfl) rfl rfl ?_
      refine P0.b GX4_stands 1 (ob := []) (cf' := (if 5 ≤ nI i160 then 49 else 24, [some (.ref (sB + 1)), some (.ref 0), some (.int (nI fr)), some (.int (nI (fr + c))), some (.int (nI i160))], [], [pI 160 tp])) rfl trivial ?_
      rw [if_neg (show ¬ (5 ≤ nI i160) from nI_ge hi160 (by decide))]
      refine P0.b GX4_stands 2 (ob := []) (cf' := (27, [some (.ref (sB + 1)), some (.ref 0), some (.int (nI fr)), some (.int (nI (fr + c))), some (.int (nI i160))], [.int (nI i160), .ref (sB + 1)], [pI 160 tp])) rfl trivial ?_
      refine P0.cr (io := []) (as := [.ref (sB + 1), .int (nI i160)]) (rest := []) (hc := []) (hc1 := []) (r1 := some (.int ((wq 1).getD i160 0))) (st' := [.int ((wq 1).getD i160 0)]) (h' := [pI 160 tp]) (d0 := 3) GJ0_charAt_5068e kX4_stands_27 rfl ⟨_, _, rfl, rfl, .inr ⟨rfl, Nat.le_of_ble_eq_true rfl, Nat.le_of_ble_eq_true rfl⟩⟩ (Nat.le_of_ble_eq_true rfl) (Nat.le_of_ble_eq_true rfl) rfl trivial (chAt_1 hi160) (Nat.le_of_ble_eq_true rfl) rfl (Nat.le_of_ble_eq_true rfl) (Nat.le_of_ble_eq_true rfl) rfl rfl ?_
      refine P0.b GX4_stands 4 (ob := []) (cf' := (35, [some (.ref (sB + 1)), some (.ref 0), some (.int (nI fr)), some (.int (nI (fr + c))), some (.int (nI i160))], [.int ((nI fr) + (nI i160)), .ref 0, .int ((wq 1).getD i160 0)], [pI 160 tp])) rfl trivial ?_
      rw [show (nI fr) + (nI i160) = nI (fr + i160) from nI_add _ _]
      refine P0.cr (io := [0]) (as := [.ref 0, .int (nI (fr + i160))]) (rest := [.int ((wq 1).getD i160 0)]) (hc := [pI 160 tp]) (hc1 := [pI 160 tp]) (r1 := some (.int (tp (fr + i160)))) (st' := [.int (tp (fr + i160)), .int ((wq 1).getD i160 0)]) (h' := [pI 160 tp]) (d0 := 0) GX5_at kX4_stands_35 rfl rfl (Nat.le_of_ble_eq_true rfl) (Nat.le_of_ble_eq_true rfl) rfl ⟨rfl, trivial⟩ (at_in (n := 160) (by decide) tp (k := (fr + i160)) (by omega)) (Nat.zero_le _) rfl (Nat.le_of_ble_eq_true rfl) (Nat.le_of_ble_eq_true rfl) rfl rfl ?_
      refine P0.b GX4_stands 1 (ob := []) (cf' := (if (wq 1).getD i160 0 = tp (fr + i160) then 43 else 41, [some (.ref (sB + 1)), some (.ref 0), some (.int (nI fr)), some (.int (nI (fr + c))), some (.int (nI i160))], [], [pI 160 tp])) rfl trivial ?_
      refine P0.if (fun h2 => ?_) (fun h2 => ?_)
      · refine P0.b GX4_stands 2 (ob := []) (cf' := (15, [some (.ref (sB + 1)), some (.ref 0), some (.int (nI fr)), some (.int (nI (fr + c))), some (.int ((nI i160) + 1))], [], [pI 160 tp])) rfl trivial ?_
        rw [show (nI i160) + 1 = nI (i160 + 1) from nI_add _ _]
        exact hk160 _ () rfl (all_s hI160 h2)
      · refine P0.b GX4_stands 1 (ob := []) (cf' := (42, [some (.ref (sB + 1)), some (.ref 0), some (.int (nI fr)), some (.int (nI (fr + c))), some (.int (nI i160))], [.int 0], [pI 160 tp])) rfl trivial ?_
        exact P0.ri (by decide +kernel) rfl (by rfl) ⟨congrArg (fun x => some (Value.int x)) (wd_no2 wqL_1 hi160 h2), rfl⟩
    · show P0 _ _ _ _ (15, [some (.ref (sB + 1)), some (.ref 0), some (.int (nI fr)), some (.int (nI (fr + c))), some (.int 5)], [], [pI 160 tp]) _
      refine P0.b GX4_stands 2 (ob := []) (cf' := (18, [some (.ref (sB + 1)), some (.ref 0), some (.int (nI fr)), some (.int (nI (fr + c))), some (.int 5)], [.ref (sB + 1), .int 5], [pI 160 tp])) rfl trivial ?_
      refine P0.cr (io := []) (as := [.ref (sB + 1)]) (rest := [.int 5]) (hc := []) (hc1 := []) (r1 := some (.int 5)) (st' := [.int 5, .int 5]) (h' := [pI 160 tp]) (d0 := 1) GJ0_len kX4_stands_18s rfl ⟨_, _, rfl, rfl, .inr ⟨rfl, Nat.le_of_ble_eq_true rfl, Nat.le_of_ble_eq_true rfl⟩⟩ (Nat.le_of_ble_eq_true rfl) (Nat.le_of_ble_eq_true rfl) rfl trivial (len_1) (Nat.le_of_ble_eq_true rfl) rfl (Nat.le_of_ble_eq_true rfl) (Nat.le_of_ble_eq_true rfl) rfl rfl ?_
      refine P0.b GX4_stands 1 (ob := []) (cf' := (if (5 : Int32) ≤ 5 then 49 else 24, [some (.ref (sB + 1)), some (.ref 0), some (.int (nI fr)), some (.int (nI (fr + c))), some (.int 5)], [], [pI 160 tp])) rfl trivial ?_
      rw [if_pos (show ((5 : Int32) ≤ 5) from by decide)]
      refine P0.b GX4_stands 1 (ob := []) (cf' := (50, [some (.ref (sB + 1)), some (.ref 0), some (.int (nI fr)), some (.int (nI (fr + c))), some (.int 5)], [.int 1], [pI 160 tp])) rfl trivial ?_
      exact P0.ri (by decide +kernel) rfl (by rfl) ⟨congrArg (fun x => some (Value.int x)) (wd_yes wqL_1 hc5 hI160), rfl⟩
  · refine P0.b GX4_stands 1 (ob := []) (cf' := (11, [some (.ref (sB + 1)), some (.ref 0), some (.int (nI fr)), some (.int (nI (fr + c))), none], [.int 0], [pI 160 tp])) rfl trivial ?_
    exact P0.ri (by decide +kernel) rfl (by rfl) ⟨congrArg (fun x => some (Value.int x)) (wd_no1 wqL_1 h1), rfl⟩
set_option maxHeartbeats 1000000 in
theorem coder_2 : P0 0 0 0 mJ0_coder_7d493 (0, ent 1 [.ref (sB + 2)], [], []) (fun r h' => r = some (.int 0) ∧ h' = []) := by
  refine P0.b GJ0_coder_7d493 2 (ob := []) (cf' := (if (1 : Int32) = 0 then 13 else 6, [some (.ref (sB + 2))], [], [])) rfl trivial ?_
  rw [if_neg (show ¬ ((1 : Int32) = 0) from by decide)]
  refine P0.b GJ0_coder_7d493 3 (ob := []) (cf' := (14, [some (.ref (sB + 2))], [.int 0], [])) rfl trivial ?_
  exact P0.ri (by decide +kernel) rfl (by rfl) ⟨rfl, rfl⟩
set_option maxHeartbeats 1000000 in
theorem latin_2 : P0 0 0 0 mJ0_isLatin1_aae02 (0, ent 1 [.ref (sB + 2)], [], []) (fun r h' => r = some (.int 1) ∧ h' = []) := by
  refine P0.b GJ0_isLatin1_aae02 2 (ob := []) (cf' := (if (1 : Int32) = 0 then 17 else 6, [some (.ref (sB + 2))], [], [])) rfl trivial ?_
  rw [if_neg (show ¬ ((1 : Int32) = 0) from by decide)]
  refine P0.b GJ0_isLatin1_aae02 3 (ob := []) (cf' := (if (0 : Int32) = 0 then 13 else 17, [some (.ref (sB + 2))], [], [])) rfl trivial ?_
  rw [if_pos (show ((0 : Int32) = 0) from by decide)]
  refine P0.b GJ0_isLatin1_aae02 2 (ob := []) (cf' := (18, [some (.ref (sB + 2))], [.int 1], [])) rfl trivial ?_
  exact P0.ri (by decide +kernel) rfl (by rfl) ⟨rfl, rfl⟩
set_option maxHeartbeats 1000000 in
theorem len_2 : P0 1 0 0 mJ0_len (0, ent 1 [.ref (sB + 2)], [], []) (fun r h' => r = some (.int 4) ∧ h' = []) := by
  refine P0.b GJ0_len 4 (ob := []) (cf' := (6, [some (.ref (sB + 2))], [.ref (sB + 2), .int 4], [])) rfl trivial ?_
  refine P0.cr (io := []) (as := [.ref (sB + 2)]) (rest := [.int 4]) (hc := []) (hc1 := []) (r1 := some (.int 0)) (st' := [.int 0, .int 4]) (h' := []) (d0 := 0) GJ0_coder_7d493 kJ0_len_6 rfl ⟨_, _, rfl, rfl, .inr ⟨rfl, Nat.le_of_ble_eq_true rfl, Nat.le_of_ble_eq_true rfl⟩⟩ (Nat.le_of_ble_eq_true rfl) (Nat.le_of_ble_eq_true rfl) rfl trivial (coder_2) (Nat.le_of_ble_eq_true rfl) rfl (Nat.le_of_ble_eq_true rfl) (Nat.le_of_ble_eq_true rfl) rfl rfl ?_
  refine P0.b GJ0_len 1 (ob := []) (cf' := (10, [some (.ref (sB + 2))], [.int ((4 : Int32) >>> (0 &&& 31))], [])) rfl trivial ?_
  exact P0.ri (by decide +kernel) rfl rfl ⟨by decide +kernel, rfl⟩
theorem ch_2 : ∀ i, i < 4 → (((strB.getD 2 []).getD i 0 &&& 255).toUInt32 % 65536).toInt32 = (wq 2).getD i 0 := by decide +kernel
theorem wqL_2 : (wq 2).length = 4 := by decide
theorem chn_2 : ∀ i, i < 4 → narrow .char (.int ((wq 2).getD i 0)) = .int ((wq 2).getD i 0) := by decide +kernel
set_option maxHeartbeats 1000000 in
theorem latAt_2 {i : Nat} (hi : i < 4) : P0 2 0 0 mJ1_charAt_3b067 (0, ent 2 [.ref (sB + 102), .int (nI i)], [], []) (fun r h' => r = some (.int ((wq 2).getD i 0)) ∧ h' = []) := by
  refine P0.b GJ1_charAt_3b067 3 (ob := []) (cf' := (3, [some (.ref (sB + 102)), some (.int (nI i))], [.int 4, .int (nI i)], [])) rfl trivial ?_
  refine P0.cr (io := []) (as := [.int (nI i), .int 4]) (rest := []) (hc := []) (hc1 := []) (r1 := none) (st' := []) (h' := []) (d0 := 1) GJ0_checkIndex_df160 kJ1_charAt_3b067_3 rfl rfl (Nat.le_of_ble_eq_true rfl) (Nat.le_of_ble_eq_true rfl) rfl trivial (chk_n hi (by decide)) (Nat.le_of_ble_eq_true rfl) rfl (Nat.le_of_ble_eq_true rfl) (Nat.le_of_ble_eq_true rfl) rfl rfl ?_
  refine P0.b GJ1_charAt_3b067 6 (ob := [vp_in (nI i) 4]) (cf' := (14, [some (.ref (sB + 102)), some (.int (nI i))], [.int (((((strB.getD 2 []).getD (nI i).toNatClampNeg 0) &&& 255).toUInt32 % 65536).toInt32)], [])) rfl ⟨nI_vp (by omega) (by decide), trivial⟩ ?_
  rw [show (nI i).toNatClampNeg = i from nI_clamp (by omega)]
  exact P0.ri (by decide +kernel) rfl (by rw [ch_2 i hi]; exact chn_2 i hi) ⟨congrArg (fun x => some (Value.int x)) (ch_2 i hi), rfl⟩
set_option maxHeartbeats 1000000 in
theorem chAt_2 {i : Nat} (hi : i < 4) : P0 3 0 0 mJ0_charAt_5068e (0, ent 2 [.ref (sB + 2), .int (nI i)], [], []) (fun r h' => r = some (.int ((wq 2).getD i 0)) ∧ h' = []) := by
  refine P0.b GJ0_charAt_5068e 1 (ob := []) (cf' := (1, [some (.ref (sB + 2)), some (.int (nI i))], [.ref (sB + 2)], [])) rfl trivial ?_
  refine P0.cr (io := []) (as := [.ref (sB + 2)]) (rest := []) (hc := []) (hc1 := []) (r1 := some (.int 1)) (st' := [.int 1]) (h' := []) (d0 := 0) GJ0_isLatin1_aae02 kJ0_charAt_5068e_1 rfl ⟨_, _, rfl, rfl, .inr ⟨rfl, Nat.le_of_ble_eq_true rfl, Nat.le_of_ble_eq_true rfl⟩⟩ (Nat.le_of_ble_eq_true rfl) (Nat.le_of_ble_eq_true rfl) rfl trivial (latin_2) (Nat.le_of_ble_eq_true rfl) rfl (Nat.le_of_ble_eq_true rfl) (Nat.le_of_ble_eq_true rfl) rfl rfl ?_
  refine P0.b GJ0_charAt_5068e 1 (ob := []) (cf' := (if (1 : Int32) = 0 then 16 else 7, [some (.ref (sB + 2)), some (.int (nI i))], [], [])) rfl trivial ?_
  rw [if_neg (show ¬ ((1 : Int32) = 0) from by decide)]
  refine P0.b GJ0_charAt_5068e 3 (ob := []) (cf' := (12, [some (.ref (sB + 2)), some (.int (nI i))], [.int (nI i), .ref (sB + 102)], [])) rfl trivial ?_
  refine P0.cr (io := []) (as := [.ref (sB + 102), .int (nI i)]) (rest := []) (hc := []) (hc1 := []) (r1 := some (.int ((wq 2).getD i 0))) (st' := [.int ((wq 2).getD i 0)]) (h' := []) (d0 := 2) GJ1_charAt_3b067 kJ0_charAt_5068e_12 rfl rfl (Nat.le_of_ble_eq_true rfl) (Nat.le_of_ble_eq_true rfl) rfl trivial (latAt_2 hi) (Nat.le_of_ble_eq_true rfl) rfl (Nat.le_of_ble_eq_true rfl) (Nat.le_of_ble_eq_true rfl) rfl rfl ?_
  exact P0.ri (by decide +kernel) rfl (by exact chn_2 i hi) ⟨rfl, rfl⟩
set_option maxHeartbeats 1000000 in
theorem stands_2 {tp : Nat → Int32} {fr c : Nat} (hfc : fr + c ≤ 160) : P0 4 0 0 mX4_stands (0, ent 5 [.ref (sB + 2), .ref 0, .int (nI fr), .int (nI (fr + c))], [], [pI 160 tp]) (fun r h' => r = some (.int (if isWd (wq 2) tp fr (fr + c) = true then 1 else 0)) ∧ h' = [pI 160 tp]) := by
  refine P0.b GX4_stands 1 (ob := []) (cf' := (1, [some (.ref (sB + 2)), some (.ref 0), some (.int (nI fr)), some (.int (nI (fr + c))), none], [.ref (sB + 2)], [pI 160 tp])) rfl trivial ?_
  refine P0.cr (io := []) (as := [.ref (sB + 2)]) (rest := []) (hc := []) (hc1 := []) (r1 := some (.int 4)) (st' := [.int 4]) (h' := [pI 160 tp]) (d0 := 1) GJ0_len kX4_stands_1s rfl ⟨_, _, rfl, rfl, .inr ⟨rfl, Nat.le_of_ble_eq_true rfl, Nat.le_of_ble_eq_true rfl⟩⟩ (Nat.le_of_ble_eq_true rfl) (Nat.le_of_ble_eq_true rfl) rfl trivial (len_2) (Nat.le_of_ble_eq_true rfl) rfl (Nat.le_of_ble_eq_true rfl) (Nat.le_of_ble_eq_true rfl) rfl rfl ?_
  refine P0.b GX4_stands 4 (ob := []) (cf' := (if 4 = (nI (fr + c)) - (nI fr) then 12 else 10, [some (.ref (sB + 2)), some (.ref 0), some (.int (nI fr)), some (.int (nI (fr + c))), none], [], [pI 160 tp])) rfl trivial ?_
  rw [show (nI (fr + c)) - (nI fr) = nI c from nI_subA fr c]
  refine P0.if (fun h1 => ?_) (fun h1 => ?_)
  · refine P0.b GX4_stands 2 (ob := []) (cf' := (15, [some (.ref (sB + 2)), some (.ref 0), some (.int (nI fr)), some (.int (nI (fr + c))), some (.int 0)], [], [pI 160 tp])) rfl trivial ?_
    have hc5 : c = 4 := wd_c (by omega) (by decide) h1
    refine P0.loopI (N := 4) (fun i (_ : Unit) => ∀ j, j < i → (wq 2).getD j 0 = tp (fr + j)) (fun x161 v161 => (15, [some (.ref (sB + 2)), some (.ref 0), some (.int (nI fr)), some (.int (nI (fr + c))), some (.int x161)], [], [pI 160 tp])) (fun i161 v161 hi161 hI161 hk161 => ?_) (fun v161 hI161 => ?_) 0 () nI_0.symm (fun j hj => absurd hj (Nat.not_lt_zero j))
    · show P0 _ _ _ _ (15, [some (.ref (sB + 2)), some (.ref 0), some (.int (nI fr)), some (.int (nI (fr + c))), some (.int (nI i161))], [], [pI 160 tp]) _
      refine P0.b GX4_stands 2 (ob := []) (cf' := (18, [some (.ref (sB + 2)), some (.ref 0), some (.int (nI fr)), some (.int (nI (fr + c))), some (.int (nI i161))], [.ref (sB + 2), .int (nI i161)], [pI 160 tp])) rfl trivial ?_
      refine P0.cr (io := []) (as := [.ref (sB + 2)]) (rest := [.int (nI i161)]) (hc := []) (hc1 := []) (r1 := some (.int 4)) (st' := [.int 4, .int (nI i161)]) (h' := [pI 160 tp]) (d0 := 1) GJ0_len kX4_stands_18s rfl ⟨_, _, rfl, rfl, .inr ⟨rfl, Nat.le_of_ble_eq_true rfl, Nat.le_of_ble_eq_true rfl⟩⟩ (Nat.le_of_ble_eq_true rfl) (Nat.le_of_ble_eq_true rfl) rfl trivial (len_2) (Nat.le_of_ble_eq_true rfl) rfl (Nat.le_of_ble_eq_true rfl) (Nat.le_of_ble_eq_true rfl) rfl rfl ?_
      refine P0.b GX4_stands 1 (ob := []) (cf' := (if 4 ≤ nI i161 then 49 else 24, [some (.ref (sB + 2)), some (.ref 0), some (.int (nI fr)), some (.int (nI (fr + c))), some (.int (nI i161))], [], [pI 160 tp])) rfl trivial ?_
      rw [if_neg (show ¬ (4 ≤ nI i161) from nI_ge hi161 (by decide))]
      refine P0.b GX4_stands 2 (ob := []) (cf' := (27, [some (.ref (sB + 2)), some (.ref 0), some (.int (nI fr)), some (.int (nI (fr + c))), some (.int (nI i161))], [.int (nI i161), .ref (sB + 2)], [pI 160 tp])) rfl trivial ?_
      refine P0.cr (io := []) (as := [.ref (sB + 2), .int (nI i161)]) (rest := []) (hc := []) (hc1 := []) (r1 := some (.int ((wq 2).getD i161 0))) (st' := [.int ((wq 2).getD i161 0)]) (h' := [pI 160 tp]) (d0 := 3) GJ0_charAt_5068e kX4_stands_27 rfl ⟨_, _, rfl, rfl, .inr ⟨rfl, Nat.le_of_ble_eq_true rfl, Nat.le_of_ble_eq_true rfl⟩⟩ (Nat.le_of_ble_eq_true rfl) (Nat.le_of_ble_eq_true rfl) rfl trivial (chAt_2 hi161) (Nat.le_of_ble_eq_true rfl) rfl (Nat.le_of_ble_eq_true rfl) (Nat.le_of_ble_eq_true rfl) rfl rfl ?_
      refine P0.b GX4_stands 4 (ob := []) (cf' := (35, [some (.ref (sB + 2)), some (.ref 0), some (.int (nI fr)), some (.int (nI (fr + c))), some (.int (nI i161))], [.int ((nI fr) + (nI i161)), .ref 0, .int ((wq 2).getD i161 0)], [pI 160 tp])) rfl trivial ?_
      rw [show (nI fr) + (nI i161) = nI (fr + i161) from nI_add _ _]
      refine P0.cr (io := [0]) (as := [.ref 0, .int (nI (fr + i161))]) (rest := [.int ((wq 2).getD i161 0)]) (hc := [pI 160 tp]) (hc1 := [pI 160 tp]) (r1 := some (.int (tp (fr + i161)))) (st' := [.int (tp (fr + i161)), .int ((wq 2).getD i161 0)]) (h' := [pI 160 tp]) (d0 := 0) GX5_at kX4_stands_35 rfl rfl (Nat.le_of_ble_eq_true rfl) (Nat.le_of_ble_eq_true rfl) rfl ⟨rfl, trivial⟩ (at_in (n := 160) (by decide) tp (k := (fr + i161)) (by omega)) (Nat.zero_le _) rfl (Nat.le_of_ble_eq_true rfl) (Nat.le_of_ble_eq_true rfl) rfl rfl ?_
      refine P0.b GX4_stands 1 (ob := []) (cf' := (if (wq 2).getD i161 0 = tp (fr + i161) then 43 else 41, [some (.ref (sB + 2)), some (.ref 0), some (.int (nI fr)), some (.int (nI (fr + c))), some (.int (nI i161))], [], [pI 160 tp])) rfl trivial ?_
      refine P0.if (fun h2 => ?_) (fun h2 => ?_)
      · refine P0.b GX4_stands 2 (ob := []) (cf' := (15, [some (.ref (sB + 2)), some (.ref 0), some (.int (nI fr)), some (.int (nI (fr + c))), some (.int ((nI i161) + 1))], [], [pI 160 tp])) rfl trivial ?_
        rw [show (nI i161) + 1 = nI (i161 + 1) from nI_add _ _]
        exact hk161 _ () rfl (all_s hI161 h2)
      · refine P0.b GX4_stands 1 (ob := []) (cf' := (42, [some (.ref (sB + 2)), some (.ref 0), some (.int (nI fr)), some (.int (nI (fr + c))), some (.int (nI i161))], [.int 0], [pI 160 tp])) rfl trivial ?_
        exact P0.ri (by decide +kernel) rfl (by rfl) ⟨congrArg (fun x => some (Value.int x)) (wd_no2 wqL_2 hi161 h2), rfl⟩
    · show P0 _ _ _ _ (15, [some (.ref (sB + 2)), some (.ref 0), some (.int (nI fr)), some (.int (nI (fr + c))), some (.int 4)], [], [pI 160 tp]) _
      refine P0.b GX4_stands 2 (ob := []) (cf' := (18, [some (.ref (sB + 2)), some (.ref 0), some (.int (nI fr)), some (.int (nI (fr + c))), some (.int 4)], [.ref (sB + 2), .int 4], [pI 160 tp])) rfl trivial ?_
      refine P0.cr (io := []) (as := [.ref (sB + 2)]) (rest := [.int 4]) (hc := []) (hc1 := []) (r1 := some (.int 4)) (st' := [.int 4, .int 4]) (h' := [pI 160 tp]) (d0 := 1) GJ0_len kX4_stands_18s rfl ⟨_, _, rfl, rfl, .inr ⟨rfl, Nat.le_of_ble_eq_true rfl, Nat.le_of_ble_eq_true rfl⟩⟩ (Nat.le_of_ble_eq_true rfl) (Nat.le_of_ble_eq_true rfl) rfl trivial (len_2) (Nat.le_of_ble_eq_true rfl) rfl (Nat.le_of_ble_eq_true rfl) (Nat.le_of_ble_eq_true rfl) rfl rfl ?_
      refine P0.b GX4_stands 1 (ob := []) (cf' := (if (4 : Int32) ≤ 4 then 49 else 24, [some (.ref (sB + 2)), some (.ref 0), some (.int (nI fr)), some (.int (nI (fr + c))), some (.int 4)], [], [pI 160 tp])) rfl trivial ?_
      rw [if_pos (show ((4 : Int32) ≤ 4) from by decide)]
      refine P0.b GX4_stands 1 (ob := []) (cf' := (50, [some (.ref (sB + 2)), some (.ref 0), some (.int (nI fr)), some (.int (nI (fr + c))), some (.int 4)], [.int 1], [pI 160 tp])) rfl trivial ?_
      exact P0.ri (by decide +kernel) rfl (by rfl) ⟨congrArg (fun x => some (Value.int x)) (wd_yes wqL_2 hc5 hI161), rfl⟩
  · refine P0.b GX4_stands 1 (ob := []) (cf' := (11, [some (.ref (sB + 2)), some (.ref 0), some (.int (nI fr)), some (.int (nI (fr + c))), none], [.int 0], [pI 160 tp])) rfl trivial ?_
    exact P0.ri (by decide +kernel) rfl (by rfl) ⟨congrArg (fun x => some (Value.int x)) (wd_no1 wqL_2 h1), rfl⟩
set_option maxHeartbeats 1000000 in
theorem coder_3 : P0 0 0 0 mJ0_coder_7d493 (0, ent 1 [.ref (sB + 3)], [], []) (fun r h' => r = some (.int 0) ∧ h' = []) := by
  refine P0.b GJ0_coder_7d493 2 (ob := []) (cf' := (if (1 : Int32) = 0 then 13 else 6, [some (.ref (sB + 3))], [], [])) rfl trivial ?_
  rw [if_neg (show ¬ ((1 : Int32) = 0) from by decide)]
  refine P0.b GJ0_coder_7d493 3 (ob := []) (cf' := (14, [some (.ref (sB + 3))], [.int 0], [])) rfl trivial ?_
  exact P0.ri (by decide +kernel) rfl (by rfl) ⟨rfl, rfl⟩
set_option maxHeartbeats 1000000 in
theorem latin_3 : P0 0 0 0 mJ0_isLatin1_aae02 (0, ent 1 [.ref (sB + 3)], [], []) (fun r h' => r = some (.int 1) ∧ h' = []) := by
  refine P0.b GJ0_isLatin1_aae02 2 (ob := []) (cf' := (if (1 : Int32) = 0 then 17 else 6, [some (.ref (sB + 3))], [], [])) rfl trivial ?_
  rw [if_neg (show ¬ ((1 : Int32) = 0) from by decide)]
  refine P0.b GJ0_isLatin1_aae02 3 (ob := []) (cf' := (if (0 : Int32) = 0 then 13 else 17, [some (.ref (sB + 3))], [], [])) rfl trivial ?_
  rw [if_pos (show ((0 : Int32) = 0) from by decide)]
  refine P0.b GJ0_isLatin1_aae02 2 (ob := []) (cf' := (18, [some (.ref (sB + 3))], [.int 1], [])) rfl trivial ?_
  exact P0.ri (by decide +kernel) rfl (by rfl) ⟨rfl, rfl⟩
set_option maxHeartbeats 1000000 in
theorem len_3 : P0 1 0 0 mJ0_len (0, ent 1 [.ref (sB + 3)], [], []) (fun r h' => r = some (.int 6) ∧ h' = []) := by
  refine P0.b GJ0_len 4 (ob := []) (cf' := (6, [some (.ref (sB + 3))], [.ref (sB + 3), .int 6], [])) rfl trivial ?_
  refine P0.cr (io := []) (as := [.ref (sB + 3)]) (rest := [.int 6]) (hc := []) (hc1 := []) (r1 := some (.int 0)) (st' := [.int 0, .int 6]) (h' := []) (d0 := 0) GJ0_coder_7d493 kJ0_len_6 rfl ⟨_, _, rfl, rfl, .inr ⟨rfl, Nat.le_of_ble_eq_true rfl, Nat.le_of_ble_eq_true rfl⟩⟩ (Nat.le_of_ble_eq_true rfl) (Nat.le_of_ble_eq_true rfl) rfl trivial (coder_3) (Nat.le_of_ble_eq_true rfl) rfl (Nat.le_of_ble_eq_true rfl) (Nat.le_of_ble_eq_true rfl) rfl rfl ?_
  refine P0.b GJ0_len 1 (ob := []) (cf' := (10, [some (.ref (sB + 3))], [.int ((6 : Int32) >>> (0 &&& 31))], [])) rfl trivial ?_
  exact P0.ri (by decide +kernel) rfl rfl ⟨by decide +kernel, rfl⟩
theorem ch_3 : ∀ i, i < 6 → (((strB.getD 3 []).getD i 0 &&& 255).toUInt32 % 65536).toInt32 = (wq 3).getD i 0 := by decide +kernel
theorem wqL_3 : (wq 3).length = 6 := by decide
theorem chn_3 : ∀ i, i < 6 → narrow .char (.int ((wq 3).getD i 0)) = .int ((wq 3).getD i 0) := by decide +kernel
set_option maxHeartbeats 1000000 in
theorem latAt_3 {i : Nat} (hi : i < 6) : P0 2 0 0 mJ1_charAt_3b067 (0, ent 2 [.ref (sB + 103), .int (nI i)], [], []) (fun r h' => r = some (.int ((wq 3).getD i 0)) ∧ h' = []) := by
  refine P0.b GJ1_charAt_3b067 3 (ob := []) (cf' := (3, [some (.ref (sB + 103)), some (.int (nI i))], [.int 6, .int (nI i)], [])) rfl trivial ?_
  refine P0.cr (io := []) (as := [.int (nI i), .int 6]) (rest := []) (hc := []) (hc1 := []) (r1 := none) (st' := []) (h' := []) (d0 := 1) GJ0_checkIndex_df160 kJ1_charAt_3b067_3 rfl rfl (Nat.le_of_ble_eq_true rfl) (Nat.le_of_ble_eq_true rfl) rfl trivial (chk_n hi (by decide)) (Nat.le_of_ble_eq_true rfl) rfl (Nat.le_of_ble_eq_true rfl) (Nat.le_of_ble_eq_true rfl) rfl rfl ?_
  refine P0.b GJ1_charAt_3b067 6 (ob := [vp_in (nI i) 6]) (cf' := (14, [some (.ref (sB + 103)), some (.int (nI i))], [.int (((((strB.getD 3 []).getD (nI i).toNatClampNeg 0) &&& 255).toUInt32 % 65536).toInt32)], [])) rfl ⟨nI_vp (by omega) (by decide), trivial⟩ ?_
  rw [show (nI i).toNatClampNeg = i from nI_clamp (by omega)]
  exact P0.ri (by decide +kernel) rfl (by rw [ch_3 i hi]; exact chn_3 i hi) ⟨congrArg (fun x => some (Value.int x)) (ch_3 i hi), rfl⟩
set_option maxHeartbeats 1000000 in
theorem chAt_3 {i : Nat} (hi : i < 6) : P0 3 0 0 mJ0_charAt_5068e (0, ent 2 [.ref (sB + 3), .int (nI i)], [], []) (fun r h' => r = some (.int ((wq 3).getD i 0)) ∧ h' = []) := by
  refine P0.b GJ0_charAt_5068e 1 (ob := []) (cf' := (1, [some (.ref (sB + 3)), some (.int (nI i))], [.ref (sB + 3)], [])) rfl trivial ?_
  refine P0.cr (io := []) (as := [.ref (sB + 3)]) (rest := []) (hc := []) (hc1 := []) (r1 := some (.int 1)) (st' := [.int 1]) (h' := []) (d0 := 0) GJ0_isLatin1_aae02 kJ0_charAt_5068e_1 rfl ⟨_, _, rfl, rfl, .inr ⟨rfl, Nat.le_of_ble_eq_true rfl, Nat.le_of_ble_eq_true rfl⟩⟩ (Nat.le_of_ble_eq_true rfl) (Nat.le_of_ble_eq_true rfl) rfl trivial (latin_3) (Nat.le_of_ble_eq_true rfl) rfl (Nat.le_of_ble_eq_true rfl) (Nat.le_of_ble_eq_true rfl) rfl rfl ?_
  refine P0.b GJ0_charAt_5068e 1 (ob := []) (cf' := (if (1 : Int32) = 0 then 16 else 7, [some (.ref (sB + 3)), some (.int (nI i))], [], [])) rfl trivial ?_
  rw [if_neg (show ¬ ((1 : Int32) = 0) from by decide)]
  refine P0.b GJ0_charAt_5068e 3 (ob := []) (cf' := (12, [some (.ref (sB + 3)), some (.int (nI i))], [.int (nI i), .ref (sB + 103)], [])) rfl trivial ?_
  refine P0.cr (io := []) (as := [.ref (sB + 103), .int (nI i)]) (rest := []) (hc := []) (hc1 := []) (r1 := some (.int ((wq 3).getD i 0))) (st' := [.int ((wq 3).getD i 0)]) (h' := []) (d0 := 2) GJ1_charAt_3b067 kJ0_charAt_5068e_12 rfl rfl (Nat.le_of_ble_eq_true rfl) (Nat.le_of_ble_eq_true rfl) rfl trivial (latAt_3 hi) (Nat.le_of_ble_eq_true rfl) rfl (Nat.le_of_ble_eq_true rfl) (Nat.le_of_ble_eq_true rfl) rfl rfl ?_
  exact P0.ri (by decide +kernel) rfl (by exact chn_3 i hi) ⟨rfl, rfl⟩
set_option maxHeartbeats 1000000 in
theorem stands_3 {tp : Nat → Int32} {fr c : Nat} (hfc : fr + c ≤ 160) : P0 4 0 0 mX4_stands (0, ent 5 [.ref (sB + 3), .ref 0, .int (nI fr), .int (nI (fr + c))], [], [pI 160 tp]) (fun r h' => r = some (.int (if isWd (wq 3) tp fr (fr + c) = true then 1 else 0)) ∧ h' = [pI 160 tp]) := by
  refine P0.b GX4_stands 1 (ob := []) (cf' := (1, [some (.ref (sB + 3)), some (.ref 0), some (.int (nI fr)), some (.int (nI (fr + c))), none], [.ref (sB + 3)], [pI 160 tp])) rfl trivial ?_
  refine P0.cr (io := []) (as := [.ref (sB + 3)]) (rest := []) (hc := []) (hc1 := []) (r1 := some (.int 6)) (st' := [.int 6]) (h' := [pI 160 tp]) (d0 := 1) GJ0_len kX4_stands_1s rfl ⟨_, _, rfl, rfl, .inr ⟨rfl, Nat.le_of_ble_eq_true rfl, Nat.le_of_ble_eq_true rfl⟩⟩ (Nat.le_of_ble_eq_true rfl) (Nat.le_of_ble_eq_true rfl) rfl trivial (len_3) (Nat.le_of_ble_eq_true rfl) rfl (Nat.le_of_ble_eq_true rfl) (Nat.le_of_ble_eq_true rfl) rfl rfl ?_
  refine P0.b GX4_stands 4 (ob := []) (cf' := (if 6 = (nI (fr + c)) - (nI fr) then 12 else 10, [some (.ref (sB + 3)), some (.ref 0), some (.int (nI fr)), some (.int (nI (fr + c))), none], [], [pI 160 tp])) rfl trivial ?_
  rw [show (nI (fr + c)) - (nI fr) = nI c from nI_subA fr c]
  refine P0.if (fun h1 => ?_) (fun h1 => ?_)
  · refine P0.b GX4_stands 2 (ob := []) (cf' := (15, [some (.ref (sB + 3)), some (.ref 0), some (.int (nI fr)), some (.int (nI (fr + c))), some (.int 0)], [], [pI 160 tp])) rfl trivial ?_
    have hc5 : c = 6 := wd_c (by omega) (by decide) h1
    refine P0.loopI (N := 6) (fun i (_ : Unit) => ∀ j, j < i → (wq 3).getD j 0 = tp (fr + j)) (fun x162 v162 => (15, [some (.ref (sB + 3)), some (.ref 0), some (.int (nI fr)), some (.int (nI (fr + c))), some (.int x162)], [], [pI 160 tp])) (fun i162 v162 hi162 hI162 hk162 => ?_) (fun v162 hI162 => ?_) 0 () nI_0.symm (fun j hj => absurd hj (Nat.not_lt_zero j))
    · show P0 _ _ _ _ (15, [some (.ref (sB + 3)), some (.ref 0), some (.int (nI fr)), some (.int (nI (fr + c))), some (.int (nI i162))], [], [pI 160 tp]) _
      refine P0.b GX4_stands 2 (ob := []) (cf' := (18, [some (.ref (sB + 3)), some (.ref 0), some (.int (nI fr)), some (.int (nI (fr + c))), some (.int (nI i162))], [.ref (sB + 3), .int (nI i162)], [pI 160 tp])) rfl trivial ?_
      refine P0.cr (io := []) (as := [.ref (sB + 3)]) (rest := [.int (nI i162)]) (hc := []) (hc1 := []) (r1 := some (.int 6)) (st' := [.int 6, .int (nI i162)]) (h' := [pI 160 tp]) (d0 := 1) GJ0_len kX4_stands_18s rfl ⟨_, _, rfl, rfl, .inr ⟨rfl, Nat.le_of_ble_eq_true rfl, Nat.le_of_ble_eq_true rfl⟩⟩ (Nat.le_of_ble_eq_true rfl) (Nat.le_of_ble_eq_true rfl) rfl trivial (len_3) (Nat.le_of_ble_eq_true rfl) rfl (Nat.le_of_ble_eq_true rfl) (Nat.le_of_ble_eq_true rfl) rfl rfl ?_
      refine P0.b GX4_stands 1 (ob := []) (cf' := (if 6 ≤ nI i162 then 49 else 24, [some (.ref (sB + 3)), some (.ref 0), some (.int (nI fr)), some (.int (nI (fr + c))), some (.int (nI i162))], [], [pI 160 tp])) rfl trivial ?_
      rw [if_neg (show ¬ (6 ≤ nI i162) from nI_ge hi162 (by decide))]
      refine P0.b GX4_stands 2 (ob := []) (cf' := (27, [some (.ref (sB + 3)), some (.ref 0), some (.int (nI fr)), some (.int (nI (fr + c))), some (.int (nI i162))], [.int (nI i162), .ref (sB + 3)], [pI 160 tp])) rfl trivial ?_
      refine P0.cr (io := []) (as := [.ref (sB + 3), .int (nI i162)]) (rest := []) (hc := []) (hc1 := []) (r1 := some (.int ((wq 3).getD i162 0))) (st' := [.int ((wq 3).getD i162 0)]) (h' := [pI 160 tp]) (d0 := 3) GJ0_charAt_5068e kX4_stands_27 rfl ⟨_, _, rfl, rfl, .inr ⟨rfl, Nat.le_of_ble_eq_true rfl, Nat.le_of_ble_eq_true rfl⟩⟩ (Nat.le_of_ble_eq_true rfl) (Nat.le_of_ble_eq_true rfl) rfl trivial (chAt_3 hi162) (Nat.le_of_ble_eq_true rfl) rfl (Nat.le_of_ble_eq_true rfl) (Nat.le_of_ble_eq_true rfl) rfl rfl ?_
      refine P0.b GX4_stands 4 (ob := []) (cf' := (35, [some (.ref (sB + 3)), some (.ref 0), some (.int (nI fr)), some (.int (nI (fr + c))), some (.int (nI i162))], [.int ((nI fr) + (nI i162)), .ref 0, .int ((wq 3).getD i162 0)], [pI 160 tp])) rfl trivial ?_
      rw [show (nI fr) + (nI i162) = nI (fr + i162) from nI_add _ _]
      refine P0.cr (io := [0]) (as := [.ref 0, .int (nI (fr + i162))]) (rest := [.int ((wq 3).getD i162 0)]) (hc := [pI 160 tp]) (hc1 := [pI 160 tp]) (r1 := some (.int (tp (fr + i162)))) (st' := [.int (tp (fr + i162)), .int ((wq 3).getD i162 0)]) (h' := [pI 160 tp]) (d0 := 0) GX5_at kX4_stands_35 rfl rfl (Nat.le_of_ble_eq_true rfl) (Nat.le_of_ble_eq_true rfl) rfl ⟨rfl, trivial⟩ (at_in (n := 160) (by decide) tp (k := (fr + i162)) (by omega)) (Nat.zero_le _) rfl (Nat.le_of_ble_eq_true rfl) (Nat.le_of_ble_eq_true rfl) rfl rfl ?_
      refine P0.b GX4_stands 1 (ob := []) (cf' := (if (wq 3).getD i162 0 = tp (fr + i162) then 43 else 41, [some (.ref (sB + 3)), some (.ref 0), some (.int (nI fr)), some (.int (nI (fr + c))), some (.int (nI i162))], [], [pI 160 tp])) rfl trivial ?_
      refine P0.if (fun h2 => ?_) (fun h2 => ?_)
      · refine P0.b GX4_stands 2 (ob := []) (cf' := (15, [some (.ref (sB + 3)), some (.ref 0), some (.int (nI fr)), some (.int (nI (fr + c))), some (.int ((nI i162) + 1))], [], [pI 160 tp])) rfl trivial ?_
        rw [show (nI i162) + 1 = nI (i162 + 1) from nI_add _ _]
        exact hk162 _ () rfl (all_s hI162 h2)
      · refine P0.b GX4_stands 1 (ob := []) (cf' := (42, [some (.ref (sB + 3)), some (.ref 0), some (.int (nI fr)), some (.int (nI (fr + c))), some (.int (nI i162))], [.int 0], [pI 160 tp])) rfl trivial ?_
        exact P0.ri (by decide +kernel) rfl (by rfl) ⟨congrArg (fun x => some (Value.int x)) (wd_no2 wqL_3 hi162 h2), rfl⟩
    · show P0 _ _ _ _ (15, [some (.ref (sB + 3)), some (.ref 0), some (.int (nI fr)), some (.int (nI (fr + c))), some (.int 6)], [], [pI 160 tp]) _
      refine P0.b GX4_stands 2 (ob := []) (cf' := (18, [some (.ref (sB + 3)), some (.ref 0), some (.int (nI fr)), some (.int (nI (fr + c))), some (.int 6)], [.ref (sB + 3), .int 6], [pI 160 tp])) rfl trivial ?_
      refine P0.cr (io := []) (as := [.ref (sB + 3)]) (rest := [.int 6]) (hc := []) (hc1 := []) (r1 := some (.int 6)) (st' := [.int 6, .int 6]) (h' := [pI 160 tp]) (d0 := 1) GJ0_len kX4_stands_18s rfl ⟨_, _, rfl, rfl, .inr ⟨rfl, Nat.le_of_ble_eq_true rfl, Nat.le_of_ble_eq_true rfl⟩⟩ (Nat.le_of_ble_eq_true rfl) (Nat.le_of_ble_eq_true rfl) rfl trivial (len_3) (Nat.le_of_ble_eq_true rfl) rfl (Nat.le_of_ble_eq_true rfl) (Nat.le_of_ble_eq_true rfl) rfl rfl ?_
      refine P0.b GX4_stands 1 (ob := []) (cf' := (if (6 : Int32) ≤ 6 then 49 else 24, [some (.ref (sB + 3)), some (.ref 0), some (.int (nI fr)), some (.int (nI (fr + c))), some (.int 6)], [], [pI 160 tp])) rfl trivial ?_
      rw [if_pos (show ((6 : Int32) ≤ 6) from by decide)]
      refine P0.b GX4_stands 1 (ob := []) (cf' := (50, [some (.ref (sB + 3)), some (.ref 0), some (.int (nI fr)), some (.int (nI (fr + c))), some (.int 6)], [.int 1], [pI 160 tp])) rfl trivial ?_
      exact P0.ri (by decide +kernel) rfl (by rfl) ⟨congrArg (fun x => some (Value.int x)) (wd_yes wqL_3 hc5 hI162), rfl⟩
  · refine P0.b GX4_stands 1 (ob := []) (cf' := (11, [some (.ref (sB + 3)), some (.ref 0), some (.int (nI fr)), some (.int (nI (fr + c))), none], [.int 0], [pI 160 tp])) rfl trivial ?_
    exact P0.ri (by decide +kernel) rfl (by rfl) ⟨congrArg (fun x => some (Value.int x)) (wd_no1 wqL_3 h1), rfl⟩
set_option maxHeartbeats 1000000 in
theorem coder_4 : P0 0 0 0 mJ0_coder_7d493 (0, ent 1 [.ref (sB + 4)], [], []) (fun r h' => r = some (.int 0) ∧ h' = []) := by
  refine P0.b GJ0_coder_7d493 2 (ob := []) (cf' := (if (1 : Int32) = 0 then 13 else 6, [some (.ref (sB + 4))], [], [])) rfl trivial ?_
  rw [if_neg (show ¬ ((1 : Int32) = 0) from by decide)]
  refine P0.b GJ0_coder_7d493 3 (ob := []) (cf' := (14, [some (.ref (sB + 4))], [.int 0], [])) rfl trivial ?_
  exact P0.ri (by decide +kernel) rfl (by rfl) ⟨rfl, rfl⟩
set_option maxHeartbeats 1000000 in
theorem latin_4 : P0 0 0 0 mJ0_isLatin1_aae02 (0, ent 1 [.ref (sB + 4)], [], []) (fun r h' => r = some (.int 1) ∧ h' = []) := by
  refine P0.b GJ0_isLatin1_aae02 2 (ob := []) (cf' := (if (1 : Int32) = 0 then 17 else 6, [some (.ref (sB + 4))], [], [])) rfl trivial ?_
  rw [if_neg (show ¬ ((1 : Int32) = 0) from by decide)]
  refine P0.b GJ0_isLatin1_aae02 3 (ob := []) (cf' := (if (0 : Int32) = 0 then 13 else 17, [some (.ref (sB + 4))], [], [])) rfl trivial ?_
  rw [if_pos (show ((0 : Int32) = 0) from by decide)]
  refine P0.b GJ0_isLatin1_aae02 2 (ob := []) (cf' := (18, [some (.ref (sB + 4))], [.int 1], [])) rfl trivial ?_
  exact P0.ri (by decide +kernel) rfl (by rfl) ⟨rfl, rfl⟩
set_option maxHeartbeats 1000000 in
theorem len_4 : P0 1 0 0 mJ0_len (0, ent 1 [.ref (sB + 4)], [], []) (fun r h' => r = some (.int 4) ∧ h' = []) := by
  refine P0.b GJ0_len 4 (ob := []) (cf' := (6, [some (.ref (sB + 4))], [.ref (sB + 4), .int 4], [])) rfl trivial ?_
  refine P0.cr (io := []) (as := [.ref (sB + 4)]) (rest := [.int 4]) (hc := []) (hc1 := []) (r1 := some (.int 0)) (st' := [.int 0, .int 4]) (h' := []) (d0 := 0) GJ0_coder_7d493 kJ0_len_6 rfl ⟨_, _, rfl, rfl, .inr ⟨rfl, Nat.le_of_ble_eq_true rfl, Nat.le_of_ble_eq_true rfl⟩⟩ (Nat.le_of_ble_eq_true rfl) (Nat.le_of_ble_eq_true rfl) rfl trivial (coder_4) (Nat.le_of_ble_eq_true rfl) rfl (Nat.le_of_ble_eq_true rfl) (Nat.le_of_ble_eq_true rfl) rfl rfl ?_
  refine P0.b GJ0_len 1 (ob := []) (cf' := (10, [some (.ref (sB + 4))], [.int ((4 : Int32) >>> (0 &&& 31))], [])) rfl trivial ?_
  exact P0.ri (by decide +kernel) rfl rfl ⟨by decide +kernel, rfl⟩
theorem ch_4 : ∀ i, i < 4 → (((strB.getD 4 []).getD i 0 &&& 255).toUInt32 % 65536).toInt32 = (wq 4).getD i 0 := by decide +kernel
theorem wqL_4 : (wq 4).length = 4 := by decide
theorem chn_4 : ∀ i, i < 4 → narrow .char (.int ((wq 4).getD i 0)) = .int ((wq 4).getD i 0) := by decide +kernel
set_option maxHeartbeats 1000000 in
theorem latAt_4 {i : Nat} (hi : i < 4) : P0 2 0 0 mJ1_charAt_3b067 (0, ent 2 [.ref (sB + 104), .int (nI i)], [], []) (fun r h' => r = some (.int ((wq 4).getD i 0)) ∧ h' = []) := by
  refine P0.b GJ1_charAt_3b067 3 (ob := []) (cf' := (3, [some (.ref (sB + 104)), some (.int (nI i))], [.int 4, .int (nI i)], [])) rfl trivial ?_
  refine P0.cr (io := []) (as := [.int (nI i), .int 4]) (rest := []) (hc := []) (hc1 := []) (r1 := none) (st' := []) (h' := []) (d0 := 1) GJ0_checkIndex_df160 kJ1_charAt_3b067_3 rfl rfl (Nat.le_of_ble_eq_true rfl) (Nat.le_of_ble_eq_true rfl) rfl trivial (chk_n hi (by decide)) (Nat.le_of_ble_eq_true rfl) rfl (Nat.le_of_ble_eq_true rfl) (Nat.le_of_ble_eq_true rfl) rfl rfl ?_
  refine P0.b GJ1_charAt_3b067 6 (ob := [vp_in (nI i) 4]) (cf' := (14, [some (.ref (sB + 104)), some (.int (nI i))], [.int (((((strB.getD 4 []).getD (nI i).toNatClampNeg 0) &&& 255).toUInt32 % 65536).toInt32)], [])) rfl ⟨nI_vp (by omega) (by decide), trivial⟩ ?_
  rw [show (nI i).toNatClampNeg = i from nI_clamp (by omega)]
  exact P0.ri (by decide +kernel) rfl (by rw [ch_4 i hi]; exact chn_4 i hi) ⟨congrArg (fun x => some (Value.int x)) (ch_4 i hi), rfl⟩
set_option maxHeartbeats 1000000 in
theorem chAt_4 {i : Nat} (hi : i < 4) : P0 3 0 0 mJ0_charAt_5068e (0, ent 2 [.ref (sB + 4), .int (nI i)], [], []) (fun r h' => r = some (.int ((wq 4).getD i 0)) ∧ h' = []) := by
  refine P0.b GJ0_charAt_5068e 1 (ob := []) (cf' := (1, [some (.ref (sB + 4)), some (.int (nI i))], [.ref (sB + 4)], [])) rfl trivial ?_
  refine P0.cr (io := []) (as := [.ref (sB + 4)]) (rest := []) (hc := []) (hc1 := []) (r1 := some (.int 1)) (st' := [.int 1]) (h' := []) (d0 := 0) GJ0_isLatin1_aae02 kJ0_charAt_5068e_1 rfl ⟨_, _, rfl, rfl, .inr ⟨rfl, Nat.le_of_ble_eq_true rfl, Nat.le_of_ble_eq_true rfl⟩⟩ (Nat.le_of_ble_eq_true rfl) (Nat.le_of_ble_eq_true rfl) rfl trivial (latin_4) (Nat.le_of_ble_eq_true rfl) rfl (Nat.le_of_ble_eq_true rfl) (Nat.le_of_ble_eq_true rfl) rfl rfl ?_
  refine P0.b GJ0_charAt_5068e 1 (ob := []) (cf' := (if (1 : Int32) = 0 then 16 else 7, [some (.ref (sB + 4)), some (.int (nI i))], [], [])) rfl trivial ?_
  rw [if_neg (show ¬ ((1 : Int32) = 0) from by decide)]
  refine P0.b GJ0_charAt_5068e 3 (ob := []) (cf' := (12, [some (.ref (sB + 4)), some (.int (nI i))], [.int (nI i), .ref (sB + 104)], [])) rfl trivial ?_
  refine P0.cr (io := []) (as := [.ref (sB + 104), .int (nI i)]) (rest := []) (hc := []) (hc1 := []) (r1 := some (.int ((wq 4).getD i 0))) (st' := [.int ((wq 4).getD i 0)]) (h' := []) (d0 := 2) GJ1_charAt_3b067 kJ0_charAt_5068e_12 rfl rfl (Nat.le_of_ble_eq_true rfl) (Nat.le_of_ble_eq_true rfl) rfl trivial (latAt_4 hi) (Nat.le_of_ble_eq_true rfl) rfl (Nat.le_of_ble_eq_true rfl) (Nat.le_of_ble_eq_true rfl) rfl rfl ?_
  exact P0.ri (by decide +kernel) rfl (by exact chn_4 i hi) ⟨rfl, rfl⟩
set_option maxHeartbeats 1000000 in
theorem stands_4 {tp : Nat → Int32} {fr c : Nat} (hfc : fr + c ≤ 160) : P0 4 0 0 mX4_stands (0, ent 5 [.ref (sB + 4), .ref 0, .int (nI fr), .int (nI (fr + c))], [], [pI 160 tp]) (fun r h' => r = some (.int (if isWd (wq 4) tp fr (fr + c) = true then 1 else 0)) ∧ h' = [pI 160 tp]) := by
  refine P0.b GX4_stands 1 (ob := []) (cf' := (1, [some (.ref (sB + 4)), some (.ref 0), some (.int (nI fr)), some (.int (nI (fr + c))), none], [.ref (sB + 4)], [pI 160 tp])) rfl trivial ?_
  refine P0.cr (io := []) (as := [.ref (sB + 4)]) (rest := []) (hc := []) (hc1 := []) (r1 := some (.int 4)) (st' := [.int 4]) (h' := [pI 160 tp]) (d0 := 1) GJ0_len kX4_stands_1s rfl ⟨_, _, rfl, rfl, .inr ⟨rfl, Nat.le_of_ble_eq_true rfl, Nat.le_of_ble_eq_true rfl⟩⟩ (Nat.le_of_ble_eq_true rfl) (Nat.le_of_ble_eq_true rfl) rfl trivial (len_4) (Nat.le_of_ble_eq_true rfl) rfl (Nat.le_of_ble_eq_true rfl) (Nat.le_of_ble_eq_true rfl) rfl rfl ?_
  refine P0.b GX4_stands 4 (ob := []) (cf' := (if 4 = (nI (fr + c)) - (nI fr) then 12 else 10, [some (.ref (sB + 4)), some (.ref 0), some (.int (nI fr)), some (.int (nI (fr + c))), none], [], [pI 160 tp])) rfl trivial ?_
  rw [show (nI (fr + c)) - (nI fr) = nI c from nI_subA fr c]
  refine P0.if (fun h1 => ?_) (fun h1 => ?_)
  · refine P0.b GX4_stands 2 (ob := []) (cf' := (15, [some (.ref (sB + 4)), some (.ref 0), some (.int (nI fr)), some (.int (nI (fr + c))), some (.int 0)], [], [pI 160 tp])) rfl trivial ?_
    have hc5 : c = 4 := wd_c (by omega) (by decide) h1
    refine P0.loopI (N := 4) (fun i (_ : Unit) => ∀ j, j < i → (wq 4).getD j 0 = tp (fr + j)) (fun x163 v163 => (15, [some (.ref (sB + 4)), some (.ref 0), some (.int (nI fr)), some (.int (nI (fr + c))), some (.int x163)], [], [pI 160 tp])) (fun i163 v163 hi163 hI163 hk163 => ?_) (fun v163 hI163 => ?_) 0 () nI_0.symm (fun j hj => absurd hj (Nat.not_lt_zero j))
    · show P0 _ _ _ _ (15, [some (.ref (sB + 4)), some (.ref 0), some (.int (nI fr)), some (.int (nI (fr + c))), some (.int (nI i163))], [], [pI 160 tp]) _
      refine P0.b GX4_stands 2 (ob := []) (cf' := (18, [some (.ref (sB + 4)), some (.ref 0), some (.int (nI fr)), some (.int (nI (fr + c))), some (.int (nI i163))], [.ref (sB + 4), .int (nI i163)], [pI 160 tp])) rfl trivial ?_
      refine P0.cr (io := []) (as := [.ref (sB + 4)]) (rest := [.int (nI i163)]) (hc := []) (hc1 := []) (r1 := some (.int 4)) (st' := [.int 4, .int (nI i163)]) (h' := [pI 160 tp]) (d0 := 1) GJ0_len kX4_stands_18s rfl ⟨_, _, rfl, rfl, .inr ⟨rfl, Nat.le_of_ble_eq_true rfl, Nat.le_of_ble_eq_true rfl⟩⟩ (Nat.le_of_ble_eq_true rfl) (Nat.le_of_ble_eq_true rfl) rfl trivial (len_4) (Nat.le_of_ble_eq_true rfl) rfl (Nat.le_of_ble_eq_true rfl) (Nat.le_of_ble_eq_true rfl) rfl rfl ?_
      refine P0.b GX4_stands 1 (ob := []) (cf' := (if 4 ≤ nI i163 then 49 else 24, [some (.ref (sB + 4)), some (.ref 0), some (.int (nI fr)), some (.int (nI (fr + c))), some (.int (nI i163))], [], [pI 160 tp])) rfl trivial ?_
      rw [if_neg (show ¬ (4 ≤ nI i163) from nI_ge hi163 (by decide))]
      refine P0.b GX4_stands 2 (ob := []) (cf' := (27, [some (.ref (sB + 4)), some (.ref 0), some (.int (nI fr)), some (.int (nI (fr + c))), some (.int (nI i163))], [.int (nI i163), .ref (sB + 4)], [pI 160 tp])) rfl trivial ?_
      refine P0.cr (io := []) (as := [.ref (sB + 4), .int (nI i163)]) (rest := []) (hc := []) (hc1 := []) (r1 := some (.int ((wq 4).getD i163 0))) (st' := [.int ((wq 4).getD i163 0)]) (h' := [pI 160 tp]) (d0 := 3) GJ0_charAt_5068e kX4_stands_27 rfl ⟨_, _, rfl, rfl, .inr ⟨rfl, Nat.le_of_ble_eq_true rfl, Nat.le_of_ble_eq_true rfl⟩⟩ (Nat.le_of_ble_eq_true rfl) (Nat.le_of_ble_eq_true rfl) rfl trivial (chAt_4 hi163) (Nat.le_of_ble_eq_true rfl) rfl (Nat.le_of_ble_eq_true rfl) (Nat.le_of_ble_eq_true rfl) rfl rfl ?_
      refine P0.b GX4_stands 4 (ob := []) (cf' := (35, [some (.ref (sB + 4)), some (.ref 0), some (.int (nI fr)), some (.int (nI (fr + c))), some (.int (nI i163))], [.int ((nI fr) + (nI i163)), .ref 0, .int ((wq 4).getD i163 0)], [pI 160 tp])) rfl trivial ?_
      rw [show (nI fr) + (nI i163) = nI (fr + i163) from nI_add _ _]
      refine P0.cr (io := [0]) (as := [.ref 0, .int (nI (fr + i163))]) (rest := [.int ((wq 4).getD i163 0)]) (hc := [pI 160 tp]) (hc1 := [pI 160 tp]) (r1 := some (.int (tp (fr + i163)))) (st' := [.int (tp (fr + i163)), .int ((wq 4).getD i163 0)]) (h' := [pI 160 tp]) (d0 := 0) GX5_at kX4_stands_35 rfl rfl (Nat.le_of_ble_eq_true rfl) (Nat.le_of_ble_eq_true rfl) rfl ⟨rfl, trivial⟩ (at_in (n := 160) (by decide) tp (k := (fr + i163)) (by omega)) (Nat.zero_le _) rfl (Nat.le_of_ble_eq_true rfl) (Nat.le_of_ble_eq_true rfl) rfl rfl ?_
      refine P0.b GX4_stands 1 (ob := []) (cf' := (if (wq 4).getD i163 0 = tp (fr + i163) then 43 else 41, [some (.ref (sB + 4)), some (.ref 0), some (.int (nI fr)), some (.int (nI (fr + c))), some (.int (nI i163))], [], [pI 160 tp])) rfl trivial ?_
      refine P0.if (fun h2 => ?_) (fun h2 => ?_)
      · refine P0.b GX4_stands 2 (ob := []) (cf' := (15, [some (.ref (sB + 4)), some (.ref 0), some (.int (nI fr)), some (.int (nI (fr + c))), some (.int ((nI i163) + 1))], [], [pI 160 tp])) rfl trivial ?_
        rw [show (nI i163) + 1 = nI (i163 + 1) from nI_add _ _]
        exact hk163 _ () rfl (all_s hI163 h2)
      · refine P0.b GX4_stands 1 (ob := []) (cf' := (42, [some (.ref (sB + 4)), some (.ref 0), some (.int (nI fr)), some (.int (nI (fr + c))), some (.int (nI i163))], [.int 0], [pI 160 tp])) rfl trivial ?_
        exact P0.ri (by decide +kernel) rfl (by rfl) ⟨congrArg (fun x => some (Value.int x)) (wd_no2 wqL_4 hi163 h2), rfl⟩
    · show P0 _ _ _ _ (15, [some (.ref (sB + 4)), some (.ref 0), some (.int (nI fr)), some (.int (nI (fr + c))), some (.int 4)], [], [pI 160 tp]) _
      refine P0.b GX4_stands 2 (ob := []) (cf' := (18, [some (.ref (sB + 4)), some (.ref 0), some (.int (nI fr)), some (.int (nI (fr + c))), some (.int 4)], [.ref (sB + 4), .int 4], [pI 160 tp])) rfl trivial ?_
      refine P0.cr (io := []) (as := [.ref (sB + 4)]) (rest := [.int 4]) (hc := []) (hc1 := []) (r1 := some (.int 4)) (st' := [.int 4, .int 4]) (h' := [pI 160 tp]) (d0 := 1) GJ0_len kX4_stands_18s rfl ⟨_, _, rfl, rfl, .inr ⟨rfl, Nat.le_of_ble_eq_true rfl, Nat.le_of_ble_eq_true rfl⟩⟩ (Nat.le_of_ble_eq_true rfl) (Nat.le_of_ble_eq_true rfl) rfl trivial (len_4) (Nat.le_of_ble_eq_true rfl) rfl (Nat.le_of_ble_eq_true rfl) (Nat.le_of_ble_eq_true rfl) rfl rfl ?_
      refine P0.b GX4_stands 1 (ob := []) (cf' := (if (4 : Int32) ≤ 4 then 49 else 24, [some (.ref (sB + 4)), some (.ref 0), some (.int (nI fr)), some (.int (nI (fr + c))), some (.int 4)], [], [pI 160 tp])) rfl trivial ?_
      rw [if_pos (show ((4 : Int32) ≤ 4) from by decide)]
      refine P0.b GX4_stands 1 (ob := []) (cf' := (50, [some (.ref (sB + 4)), some (.ref 0), some (.int (nI fr)), some (.int (nI (fr + c))), some (.int 4)], [.int 1], [pI 160 tp])) rfl trivial ?_
      exact P0.ri (by decide +kernel) rfl (by rfl) ⟨congrArg (fun x => some (Value.int x)) (wd_yes wqL_4 hc5 hI163), rfl⟩
  · refine P0.b GX4_stands 1 (ob := []) (cf' := (11, [some (.ref (sB + 4)), some (.ref 0), some (.int (nI fr)), some (.int (nI (fr + c))), none], [.int 0], [pI 160 tp])) rfl trivial ?_
    exact P0.ri (by decide +kernel) rfl (by rfl) ⟨congrArg (fun x => some (Value.int x)) (wd_no1 wqL_4 h1), rfl⟩
set_option maxHeartbeats 1000000 in
theorem coder_5 : P0 0 0 0 mJ0_coder_7d493 (0, ent 1 [.ref (sB + 5)], [], []) (fun r h' => r = some (.int 0) ∧ h' = []) := by
  refine P0.b GJ0_coder_7d493 2 (ob := []) (cf' := (if (1 : Int32) = 0 then 13 else 6, [some (.ref (sB + 5))], [], [])) rfl trivial ?_
  rw [if_neg (show ¬ ((1 : Int32) = 0) from by decide)]
  refine P0.b GJ0_coder_7d493 3 (ob := []) (cf' := (14, [some (.ref (sB + 5))], [.int 0], [])) rfl trivial ?_
  exact P0.ri (by decide +kernel) rfl (by rfl) ⟨rfl, rfl⟩
set_option maxHeartbeats 1000000 in
theorem latin_5 : P0 0 0 0 mJ0_isLatin1_aae02 (0, ent 1 [.ref (sB + 5)], [], []) (fun r h' => r = some (.int 1) ∧ h' = []) := by
  refine P0.b GJ0_isLatin1_aae02 2 (ob := []) (cf' := (if (1 : Int32) = 0 then 17 else 6, [some (.ref (sB + 5))], [], [])) rfl trivial ?_
  rw [if_neg (show ¬ ((1 : Int32) = 0) from by decide)]
  refine P0.b GJ0_isLatin1_aae02 3 (ob := []) (cf' := (if (0 : Int32) = 0 then 13 else 17, [some (.ref (sB + 5))], [], [])) rfl trivial ?_
  rw [if_pos (show ((0 : Int32) = 0) from by decide)]
  refine P0.b GJ0_isLatin1_aae02 2 (ob := []) (cf' := (18, [some (.ref (sB + 5))], [.int 1], [])) rfl trivial ?_
  exact P0.ri (by decide +kernel) rfl (by rfl) ⟨rfl, rfl⟩
set_option maxHeartbeats 1000000 in
theorem len_5 : P0 1 0 0 mJ0_len (0, ent 1 [.ref (sB + 5)], [], []) (fun r h' => r = some (.int 4) ∧ h' = []) := by
  refine P0.b GJ0_len 4 (ob := []) (cf' := (6, [some (.ref (sB + 5))], [.ref (sB + 5), .int 4], [])) rfl trivial ?_
  refine P0.cr (io := []) (as := [.ref (sB + 5)]) (rest := [.int 4]) (hc := []) (hc1 := []) (r1 := some (.int 0)) (st' := [.int 0, .int 4]) (h' := []) (d0 := 0) GJ0_coder_7d493 kJ0_len_6 rfl ⟨_, _, rfl, rfl, .inr ⟨rfl, Nat.le_of_ble_eq_true rfl, Nat.le_of_ble_eq_true rfl⟩⟩ (Nat.le_of_ble_eq_true rfl) (Nat.le_of_ble_eq_true rfl) rfl trivial (coder_5) (Nat.le_of_ble_eq_true rfl) rfl (Nat.le_of_ble_eq_true rfl) (Nat.le_of_ble_eq_true rfl) rfl rfl ?_
  refine P0.b GJ0_len 1 (ob := []) (cf' := (10, [some (.ref (sB + 5))], [.int ((4 : Int32) >>> (0 &&& 31))], [])) rfl trivial ?_
  exact P0.ri (by decide +kernel) rfl rfl ⟨by decide +kernel, rfl⟩
theorem ch_5 : ∀ i, i < 4 → (((strB.getD 5 []).getD i 0 &&& 255).toUInt32 % 65536).toInt32 = (wq 5).getD i 0 := by decide +kernel
theorem wqL_5 : (wq 5).length = 4 := by decide
theorem chn_5 : ∀ i, i < 4 → narrow .char (.int ((wq 5).getD i 0)) = .int ((wq 5).getD i 0) := by decide +kernel
set_option maxHeartbeats 1000000 in
theorem latAt_5 {i : Nat} (hi : i < 4) : P0 2 0 0 mJ1_charAt_3b067 (0, ent 2 [.ref (sB + 105), .int (nI i)], [], []) (fun r h' => r = some (.int ((wq 5).getD i 0)) ∧ h' = []) := by
  refine P0.b GJ1_charAt_3b067 3 (ob := []) (cf' := (3, [some (.ref (sB + 105)), some (.int (nI i))], [.int 4, .int (nI i)], [])) rfl trivial ?_
  refine P0.cr (io := []) (as := [.int (nI i), .int 4]) (rest := []) (hc := []) (hc1 := []) (r1 := none) (st' := []) (h' := []) (d0 := 1) GJ0_checkIndex_df160 kJ1_charAt_3b067_3 rfl rfl (Nat.le_of_ble_eq_true rfl) (Nat.le_of_ble_eq_true rfl) rfl trivial (chk_n hi (by decide)) (Nat.le_of_ble_eq_true rfl) rfl (Nat.le_of_ble_eq_true rfl) (Nat.le_of_ble_eq_true rfl) rfl rfl ?_
  refine P0.b GJ1_charAt_3b067 6 (ob := [vp_in (nI i) 4]) (cf' := (14, [some (.ref (sB + 105)), some (.int (nI i))], [.int (((((strB.getD 5 []).getD (nI i).toNatClampNeg 0) &&& 255).toUInt32 % 65536).toInt32)], [])) rfl ⟨nI_vp (by omega) (by decide), trivial⟩ ?_
  rw [show (nI i).toNatClampNeg = i from nI_clamp (by omega)]
  exact P0.ri (by decide +kernel) rfl (by rw [ch_5 i hi]; exact chn_5 i hi) ⟨congrArg (fun x => some (Value.int x)) (ch_5 i hi), rfl⟩
set_option maxHeartbeats 1000000 in
theorem chAt_5 {i : Nat} (hi : i < 4) : P0 3 0 0 mJ0_charAt_5068e (0, ent 2 [.ref (sB + 5), .int (nI i)], [], []) (fun r h' => r = some (.int ((wq 5).getD i 0)) ∧ h' = []) := by
  refine P0.b GJ0_charAt_5068e 1 (ob := []) (cf' := (1, [some (.ref (sB + 5)), some (.int (nI i))], [.ref (sB + 5)], [])) rfl trivial ?_
  refine P0.cr (io := []) (as := [.ref (sB + 5)]) (rest := []) (hc := []) (hc1 := []) (r1 := some (.int 1)) (st' := [.int 1]) (h' := []) (d0 := 0) GJ0_isLatin1_aae02 kJ0_charAt_5068e_1 rfl ⟨_, _, rfl, rfl, .inr ⟨rfl, Nat.le_of_ble_eq_true rfl, Nat.le_of_ble_eq_true rfl⟩⟩ (Nat.le_of_ble_eq_true rfl) (Nat.le_of_ble_eq_true rfl) rfl trivial (latin_5) (Nat.le_of_ble_eq_true rfl) rfl (Nat.le_of_ble_eq_true rfl) (Nat.le_of_ble_eq_true rfl) rfl rfl ?_
  refine P0.b GJ0_charAt_5068e 1 (ob := []) (cf' := (if (1 : Int32) = 0 then 16 else 7, [some (.ref (sB + 5)), some (.int (nI i))], [], [])) rfl trivial ?_
  rw [if_neg (show ¬ ((1 : Int32) = 0) from by decide)]
  refine P0.b GJ0_charAt_5068e 3 (ob := []) (cf' := (12, [some (.ref (sB + 5)), some (.int (nI i))], [.int (nI i), .ref (sB + 105)], [])) rfl trivial ?_
  refine P0.cr (io := []) (as := [.ref (sB + 105), .int (nI i)]) (rest := []) (hc := []) (hc1 := []) (r1 := some (.int ((wq 5).getD i 0))) (st' := [.int ((wq 5).getD i 0)]) (h' := []) (d0 := 2) GJ1_charAt_3b067 kJ0_charAt_5068e_12 rfl rfl (Nat.le_of_ble_eq_true rfl) (Nat.le_of_ble_eq_true rfl) rfl trivial (latAt_5 hi) (Nat.le_of_ble_eq_true rfl) rfl (Nat.le_of_ble_eq_true rfl) (Nat.le_of_ble_eq_true rfl) rfl rfl ?_
  exact P0.ri (by decide +kernel) rfl (by exact chn_5 i hi) ⟨rfl, rfl⟩
set_option maxHeartbeats 1000000 in
theorem stands_5 {tp : Nat → Int32} {fr c : Nat} (hfc : fr + c ≤ 160) : P0 4 0 0 mX4_stands (0, ent 5 [.ref (sB + 5), .ref 0, .int (nI fr), .int (nI (fr + c))], [], [pI 160 tp]) (fun r h' => r = some (.int (if isWd (wq 5) tp fr (fr + c) = true then 1 else 0)) ∧ h' = [pI 160 tp]) := by
  refine P0.b GX4_stands 1 (ob := []) (cf' := (1, [some (.ref (sB + 5)), some (.ref 0), some (.int (nI fr)), some (.int (nI (fr + c))), none], [.ref (sB + 5)], [pI 160 tp])) rfl trivial ?_
  refine P0.cr (io := []) (as := [.ref (sB + 5)]) (rest := []) (hc := []) (hc1 := []) (r1 := some (.int 4)) (st' := [.int 4]) (h' := [pI 160 tp]) (d0 := 1) GJ0_len kX4_stands_1s rfl ⟨_, _, rfl, rfl, .inr ⟨rfl, Nat.le_of_ble_eq_true rfl, Nat.le_of_ble_eq_true rfl⟩⟩ (Nat.le_of_ble_eq_true rfl) (Nat.le_of_ble_eq_true rfl) rfl trivial (len_5) (Nat.le_of_ble_eq_true rfl) rfl (Nat.le_of_ble_eq_true rfl) (Nat.le_of_ble_eq_true rfl) rfl rfl ?_
  refine P0.b GX4_stands 4 (ob := []) (cf' := (if 4 = (nI (fr + c)) - (nI fr) then 12 else 10, [some (.ref (sB + 5)), some (.ref 0), some (.int (nI fr)), some (.int (nI (fr + c))), none], [], [pI 160 tp])) rfl trivial ?_
  rw [show (nI (fr + c)) - (nI fr) = nI c from nI_subA fr c]
  refine P0.if (fun h1 => ?_) (fun h1 => ?_)
  · refine P0.b GX4_stands 2 (ob := []) (cf' := (15, [some (.ref (sB + 5)), some (.ref 0), some (.int (nI fr)), some (.int (nI (fr + c))), some (.int 0)], [], [pI 160 tp])) rfl trivial ?_
    have hc5 : c = 4 := wd_c (by omega) (by decide) h1
    refine P0.loopI (N := 4) (fun i (_ : Unit) => ∀ j, j < i → (wq 5).getD j 0 = tp (fr + j)) (fun x164 v164 => (15, [some (.ref (sB + 5)), some (.ref 0), some (.int (nI fr)), some (.int (nI (fr + c))), some (.int x164)], [], [pI 160 tp])) (fun i164 v164 hi164 hI164 hk164 => ?_) (fun v164 hI164 => ?_) 0 () nI_0.symm (fun j hj => absurd hj (Nat.not_lt_zero j))
    · show P0 _ _ _ _ (15, [some (.ref (sB + 5)), some (.ref 0), some (.int (nI fr)), some (.int (nI (fr + c))), some (.int (nI i164))], [], [pI 160 tp]) _
      refine P0.b GX4_stands 2 (ob := []) (cf' := (18, [some (.ref (sB + 5)), some (.ref 0), some (.int (nI fr)), some (.int (nI (fr + c))), some (.int (nI i164))], [.ref (sB + 5), .int (nI i164)], [pI 160 tp])) rfl trivial ?_
      refine P0.cr (io := []) (as := [.ref (sB + 5)]) (rest := [.int (nI i164)]) (hc := []) (hc1 := []) (r1 := some (.int 4)) (st' := [.int 4, .int (nI i164)]) (h' := [pI 160 tp]) (d0 := 1) GJ0_len kX4_stands_18s rfl ⟨_, _, rfl, rfl, .inr ⟨rfl, Nat.le_of_ble_eq_true rfl, Nat.le_of_ble_eq_true rfl⟩⟩ (Nat.le_of_ble_eq_true rfl) (Nat.le_of_ble_eq_true rfl) rfl trivial (len_5) (Nat.le_of_ble_eq_true rfl) rfl (Nat.le_of_ble_eq_true rfl) (Nat.le_of_ble_eq_true rfl) rfl rfl ?_
      refine P0.b GX4_stands 1 (ob := []) (cf' := (if 4 ≤ nI i164 then 49 else 24, [some (.ref (sB + 5)), some (.ref 0), some (.int (nI fr)), some (.int (nI (fr + c))), some (.int (nI i164))], [], [pI 160 tp])) rfl trivial ?_
      rw [if_neg (show ¬ (4 ≤ nI i164) from nI_ge hi164 (by decide))]
      refine P0.b GX4_stands 2 (ob := []) (cf' := (27, [some (.ref (sB + 5)), some (.ref 0), some (.int (nI fr)), some (.int (nI (fr + c))), some (.int (nI i164))], [.int (nI i164), .ref (sB + 5)], [pI 160 tp])) rfl trivial ?_
      refine P0.cr (io := []) (as := [.ref (sB + 5), .int (nI i164)]) (rest := []) (hc := []) (hc1 := []) (r1 := some (.int ((wq 5).getD i164 0))) (st' := [.int ((wq 5).getD i164 0)]) (h' := [pI 160 tp]) (d0 := 3) GJ0_charAt_5068e kX4_stands_27 rfl ⟨_, _, rfl, rfl, .inr ⟨rfl, Nat.le_of_ble_eq_true rfl, Nat.le_of_ble_eq_true rfl⟩⟩ (Nat.le_of_ble_eq_true rfl) (Nat.le_of_ble_eq_true rfl) rfl trivial (chAt_5 hi164) (Nat.le_of_ble_eq_true rfl) rfl (Nat.le_of_ble_eq_true rfl) (Nat.le_of_ble_eq_true rfl) rfl rfl ?_
      refine P0.b GX4_stands 4 (ob := []) (cf' := (35, [some (.ref (sB + 5)), some (.ref 0), some (.int (nI fr)), some (.int (nI (fr + c))), some (.int (nI i164))], [.int ((nI fr) + (nI i164)), .ref 0, .int ((wq 5).getD i164 0)], [pI 160 tp])) rfl trivial ?_
      rw [show (nI fr) + (nI i164) = nI (fr + i164) from nI_add _ _]
      refine P0.cr (io := [0]) (as := [.ref 0, .int (nI (fr + i164))]) (rest := [.int ((wq 5).getD i164 0)]) (hc := [pI 160 tp]) (hc1 := [pI 160 tp]) (r1 := some (.int (tp (fr + i164)))) (st' := [.int (tp (fr + i164)), .int ((wq 5).getD i164 0)]) (h' := [pI 160 tp]) (d0 := 0) GX5_at kX4_stands_35 rfl rfl (Nat.le_of_ble_eq_true rfl) (Nat.le_of_ble_eq_true rfl) rfl ⟨rfl, trivial⟩ (at_in (n := 160) (by decide) tp (k := (fr + i164)) (by omega)) (Nat.zero_le _) rfl (Nat.le_of_ble_eq_true rfl) (Nat.le_of_ble_eq_true rfl) rfl rfl ?_
      refine P0.b GX4_stands 1 (ob := []) (cf' := (if (wq 5).getD i164 0 = tp (fr + i164) then 43 else 41, [some (.ref (sB + 5)), some (.ref 0), some (.int (nI fr)), some (.int (nI (fr + c))), some (.int (nI i164))], [], [pI 160 tp])) rfl trivial ?_
      refine P0.if (fun h2 => ?_) (fun h2 => ?_)
      · refine P0.b GX4_stands 2 (ob := []) (cf' := (15, [some (.ref (sB + 5)), some (.ref 0), some (.int (nI fr)), some (.int (nI (fr + c))), some (.int ((nI i164) + 1))], [], [pI 160 tp])) rfl trivial ?_
        rw [show (nI i164) + 1 = nI (i164 + 1) from nI_add _ _]
        exact hk164 _ () rfl (all_s hI164 h2)
      · refine P0.b GX4_stands 1 (ob := []) (cf' := (42, [some (.ref (sB + 5)), some (.ref 0), some (.int (nI fr)), some (.int (nI (fr + c))), some (.int (nI i164))], [.int 0], [pI 160 tp])) rfl trivial ?_
        exact P0.ri (by decide +kernel) rfl (by rfl) ⟨congrArg (fun x => some (Value.int x)) (wd_no2 wqL_5 hi164 h2), rfl⟩
    · show P0 _ _ _ _ (15, [some (.ref (sB + 5)), some (.ref 0), some (.int (nI fr)), some (.int (nI (fr + c))), some (.int 4)], [], [pI 160 tp]) _
      refine P0.b GX4_stands 2 (ob := []) (cf' := (18, [some (.ref (sB + 5)), some (.ref 0), some (.int (nI fr)), some (.int (nI (fr + c))), some (.int 4)], [.ref (sB + 5), .int 4], [pI 160 tp])) rfl trivial ?_
      refine P0.cr (io := []) (as := [.ref (sB + 5)]) (rest := [.int 4]) (hc := []) (hc1 := []) (r1 := some (.int 4)) (st' := [.int 4, .int 4]) (h' := [pI 160 tp]) (d0 := 1) GJ0_len kX4_stands_18s rfl ⟨_, _, rfl, rfl, .inr ⟨rfl, Nat.le_of_ble_eq_true rfl, Nat.le_of_ble_eq_true rfl⟩⟩ (Nat.le_of_ble_eq_true rfl) (Nat.le_of_ble_eq_true rfl) rfl trivial (len_5) (Nat.le_of_ble_eq_true rfl) rfl (Nat.le_of_ble_eq_true rfl) (Nat.le_of_ble_eq_true rfl) rfl rfl ?_
      refine P0.b GX4_stands 1 (ob := []) (cf' := (if (4 : Int32) ≤ 4 then 49 else 24, [some (.ref (sB + 5)), some (.ref 0), some (.int (nI fr)), some (.int (nI (fr + c))), some (.int 4)], [], [pI 160 tp])) rfl trivial ?_
      rw [if_pos (show ((4 : Int32) ≤ 4) from by decide)]
      refine P0.b GX4_stands 1 (ob := []) (cf' := (50, [some (.ref (sB + 5)), some (.ref 0), some (.int (nI fr)), some (.int (nI (fr + c))), some (.int 4)], [.int 1], [pI 160 tp])) rfl trivial ?_
      exact P0.ri (by decide +kernel) rfl (by rfl) ⟨congrArg (fun x => some (Value.int x)) (wd_yes wqL_5 hc5 hI164), rfl⟩
  · refine P0.b GX4_stands 1 (ob := []) (cf' := (11, [some (.ref (sB + 5)), some (.ref 0), some (.int (nI fr)), some (.int (nI (fr + c))), none], [.int 0], [pI 160 tp])) rfl trivial ?_
    exact P0.ri (by decide +kernel) rfl (by rfl) ⟨congrArg (fun x => some (Value.int x)) (wd_no1 wqL_5 h1), rfl⟩
set_option maxHeartbeats 1000000 in
theorem coder_6 : P0 0 0 0 mJ0_coder_7d493 (0, ent 1 [.ref (sB + 6)], [], []) (fun r h' => r = some (.int 0) ∧ h' = []) := by
  refine P0.b GJ0_coder_7d493 2 (ob := []) (cf' := (if (1 : Int32) = 0 then 13 else 6, [some (.ref (sB + 6))], [], [])) rfl trivial ?_
  rw [if_neg (show ¬ ((1 : Int32) = 0) from by decide)]
  refine P0.b GJ0_coder_7d493 3 (ob := []) (cf' := (14, [some (.ref (sB + 6))], [.int 0], [])) rfl trivial ?_
  exact P0.ri (by decide +kernel) rfl (by rfl) ⟨rfl, rfl⟩
set_option maxHeartbeats 1000000 in
theorem latin_6 : P0 0 0 0 mJ0_isLatin1_aae02 (0, ent 1 [.ref (sB + 6)], [], []) (fun r h' => r = some (.int 1) ∧ h' = []) := by
  refine P0.b GJ0_isLatin1_aae02 2 (ob := []) (cf' := (if (1 : Int32) = 0 then 17 else 6, [some (.ref (sB + 6))], [], [])) rfl trivial ?_
  rw [if_neg (show ¬ ((1 : Int32) = 0) from by decide)]
  refine P0.b GJ0_isLatin1_aae02 3 (ob := []) (cf' := (if (0 : Int32) = 0 then 13 else 17, [some (.ref (sB + 6))], [], [])) rfl trivial ?_
  rw [if_pos (show ((0 : Int32) = 0) from by decide)]
  refine P0.b GJ0_isLatin1_aae02 2 (ob := []) (cf' := (18, [some (.ref (sB + 6))], [.int 1], [])) rfl trivial ?_
  exact P0.ri (by decide +kernel) rfl (by rfl) ⟨rfl, rfl⟩
set_option maxHeartbeats 1000000 in
theorem len_6 : P0 1 0 0 mJ0_len (0, ent 1 [.ref (sB + 6)], [], []) (fun r h' => r = some (.int 3) ∧ h' = []) := by
  refine P0.b GJ0_len 4 (ob := []) (cf' := (6, [some (.ref (sB + 6))], [.ref (sB + 6), .int 3], [])) rfl trivial ?_
  refine P0.cr (io := []) (as := [.ref (sB + 6)]) (rest := [.int 3]) (hc := []) (hc1 := []) (r1 := some (.int 0)) (st' := [.int 0, .int 3]) (h' := []) (d0 := 0) GJ0_coder_7d493 kJ0_len_6 rfl ⟨_, _, rfl, rfl, .inr ⟨rfl, Nat.le_of_ble_eq_true rfl, Nat.le_of_ble_eq_true rfl⟩⟩ (Nat.le_of_ble_eq_true rfl) (Nat.le_of_ble_eq_true rfl) rfl trivial (coder_6) (Nat.le_of_ble_eq_true rfl) rfl (Nat.le_of_ble_eq_true rfl) (Nat.le_of_ble_eq_true rfl) rfl rfl ?_
  refine P0.b GJ0_len 1 (ob := []) (cf' := (10, [some (.ref (sB + 6))], [.int ((3 : Int32) >>> (0 &&& 31))], [])) rfl trivial ?_
  exact P0.ri (by decide +kernel) rfl rfl ⟨by decide +kernel, rfl⟩
theorem ch_6 : ∀ i, i < 3 → (((strB.getD 6 []).getD i 0 &&& 255).toUInt32 % 65536).toInt32 = (wq 6).getD i 0 := by decide +kernel
theorem wqL_6 : (wq 6).length = 3 := by decide
theorem chn_6 : ∀ i, i < 3 → narrow .char (.int ((wq 6).getD i 0)) = .int ((wq 6).getD i 0) := by decide +kernel
set_option maxHeartbeats 1000000 in
theorem latAt_6 {i : Nat} (hi : i < 3) : P0 2 0 0 mJ1_charAt_3b067 (0, ent 2 [.ref (sB + 106), .int (nI i)], [], []) (fun r h' => r = some (.int ((wq 6).getD i 0)) ∧ h' = []) := by
  refine P0.b GJ1_charAt_3b067 3 (ob := []) (cf' := (3, [some (.ref (sB + 106)), some (.int (nI i))], [.int 3, .int (nI i)], [])) rfl trivial ?_
  refine P0.cr (io := []) (as := [.int (nI i), .int 3]) (rest := []) (hc := []) (hc1 := []) (r1 := none) (st' := []) (h' := []) (d0 := 1) GJ0_checkIndex_df160 kJ1_charAt_3b067_3 rfl rfl (Nat.le_of_ble_eq_true rfl) (Nat.le_of_ble_eq_true rfl) rfl trivial (chk_n hi (by decide)) (Nat.le_of_ble_eq_true rfl) rfl (Nat.le_of_ble_eq_true rfl) (Nat.le_of_ble_eq_true rfl) rfl rfl ?_
  refine P0.b GJ1_charAt_3b067 6 (ob := [vp_in (nI i) 3]) (cf' := (14, [some (.ref (sB + 106)), some (.int (nI i))], [.int (((((strB.getD 6 []).getD (nI i).toNatClampNeg 0) &&& 255).toUInt32 % 65536).toInt32)], [])) rfl ⟨nI_vp (by omega) (by decide), trivial⟩ ?_
  rw [show (nI i).toNatClampNeg = i from nI_clamp (by omega)]
  exact P0.ri (by decide +kernel) rfl (by rw [ch_6 i hi]; exact chn_6 i hi) ⟨congrArg (fun x => some (Value.int x)) (ch_6 i hi), rfl⟩
set_option maxHeartbeats 1000000 in
theorem chAt_6 {i : Nat} (hi : i < 3) : P0 3 0 0 mJ0_charAt_5068e (0, ent 2 [.ref (sB + 6), .int (nI i)], [], []) (fun r h' => r = some (.int ((wq 6).getD i 0)) ∧ h' = []) := by
  refine P0.b GJ0_charAt_5068e 1 (ob := []) (cf' := (1, [some (.ref (sB + 6)), some (.int (nI i))], [.ref (sB + 6)], [])) rfl trivial ?_
  refine P0.cr (io := []) (as := [.ref (sB + 6)]) (rest := []) (hc := []) (hc1 := []) (r1 := some (.int 1)) (st' := [.int 1]) (h' := []) (d0 := 0) GJ0_isLatin1_aae02 kJ0_charAt_5068e_1 rfl ⟨_, _, rfl, rfl, .inr ⟨rfl, Nat.le_of_ble_eq_true rfl, Nat.le_of_ble_eq_true rfl⟩⟩ (Nat.le_of_ble_eq_true rfl) (Nat.le_of_ble_eq_true rfl) rfl trivial (latin_6) (Nat.le_of_ble_eq_true rfl) rfl (Nat.le_of_ble_eq_true rfl) (Nat.le_of_ble_eq_true rfl) rfl rfl ?_
  refine P0.b GJ0_charAt_5068e 1 (ob := []) (cf' := (if (1 : Int32) = 0 then 16 else 7, [some (.ref (sB + 6)), some (.int (nI i))], [], [])) rfl trivial ?_
  rw [if_neg (show ¬ ((1 : Int32) = 0) from by decide)]
  refine P0.b GJ0_charAt_5068e 3 (ob := []) (cf' := (12, [some (.ref (sB + 6)), some (.int (nI i))], [.int (nI i), .ref (sB + 106)], [])) rfl trivial ?_
  refine P0.cr (io := []) (as := [.ref (sB + 106), .int (nI i)]) (rest := []) (hc := []) (hc1 := []) (r1 := some (.int ((wq 6).getD i 0))) (st' := [.int ((wq 6).getD i 0)]) (h' := []) (d0 := 2) GJ1_charAt_3b067 kJ0_charAt_5068e_12 rfl rfl (Nat.le_of_ble_eq_true rfl) (Nat.le_of_ble_eq_true rfl) rfl trivial (latAt_6 hi) (Nat.le_of_ble_eq_true rfl) rfl (Nat.le_of_ble_eq_true rfl) (Nat.le_of_ble_eq_true rfl) rfl rfl ?_
  exact P0.ri (by decide +kernel) rfl (by exact chn_6 i hi) ⟨rfl, rfl⟩
set_option maxHeartbeats 1000000 in
theorem stands_6 {tp : Nat → Int32} {fr c : Nat} (hfc : fr + c ≤ 160) : P0 4 0 0 mX4_stands (0, ent 5 [.ref (sB + 6), .ref 0, .int (nI fr), .int (nI (fr + c))], [], [pI 160 tp]) (fun r h' => r = some (.int (if isWd (wq 6) tp fr (fr + c) = true then 1 else 0)) ∧ h' = [pI 160 tp]) := by
  refine P0.b GX4_stands 1 (ob := []) (cf' := (1, [some (.ref (sB + 6)), some (.ref 0), some (.int (nI fr)), some (.int (nI (fr + c))), none], [.ref (sB + 6)], [pI 160 tp])) rfl trivial ?_
  refine P0.cr (io := []) (as := [.ref (sB + 6)]) (rest := []) (hc := []) (hc1 := []) (r1 := some (.int 3)) (st' := [.int 3]) (h' := [pI 160 tp]) (d0 := 1) GJ0_len kX4_stands_1s rfl ⟨_, _, rfl, rfl, .inr ⟨rfl, Nat.le_of_ble_eq_true rfl, Nat.le_of_ble_eq_true rfl⟩⟩ (Nat.le_of_ble_eq_true rfl) (Nat.le_of_ble_eq_true rfl) rfl trivial (len_6) (Nat.le_of_ble_eq_true rfl) rfl (Nat.le_of_ble_eq_true rfl) (Nat.le_of_ble_eq_true rfl) rfl rfl ?_
  refine P0.b GX4_stands 4 (ob := []) (cf' := (if 3 = (nI (fr + c)) - (nI fr) then 12 else 10, [some (.ref (sB + 6)), some (.ref 0), some (.int (nI fr)), some (.int (nI (fr + c))), none], [], [pI 160 tp])) rfl trivial ?_
  rw [show (nI (fr + c)) - (nI fr) = nI c from nI_subA fr c]
  refine P0.if (fun h1 => ?_) (fun h1 => ?_)
  · refine P0.b GX4_stands 2 (ob := []) (cf' := (15, [some (.ref (sB + 6)), some (.ref 0), some (.int (nI fr)), some (.int (nI (fr + c))), some (.int 0)], [], [pI 160 tp])) rfl trivial ?_
    have hc5 : c = 3 := wd_c (by omega) (by decide) h1
    refine P0.loopI (N := 3) (fun i (_ : Unit) => ∀ j, j < i → (wq 6).getD j 0 = tp (fr + j)) (fun x165 v165 => (15, [some (.ref (sB + 6)), some (.ref 0), some (.int (nI fr)), some (.int (nI (fr + c))), some (.int x165)], [], [pI 160 tp])) (fun i165 v165 hi165 hI165 hk165 => ?_) (fun v165 hI165 => ?_) 0 () nI_0.symm (fun j hj => absurd hj (Nat.not_lt_zero j))
    · show P0 _ _ _ _ (15, [some (.ref (sB + 6)), some (.ref 0), some (.int (nI fr)), some (.int (nI (fr + c))), some (.int (nI i165))], [], [pI 160 tp]) _
      refine P0.b GX4_stands 2 (ob := []) (cf' := (18, [some (.ref (sB + 6)), some (.ref 0), some (.int (nI fr)), some (.int (nI (fr + c))), some (.int (nI i165))], [.ref (sB + 6), .int (nI i165)], [pI 160 tp])) rfl trivial ?_
      refine P0.cr (io := []) (as := [.ref (sB + 6)]) (rest := [.int (nI i165)]) (hc := []) (hc1 := []) (r1 := some (.int 3)) (st' := [.int 3, .int (nI i165)]) (h' := [pI 160 tp]) (d0 := 1) GJ0_len kX4_stands_18s rfl ⟨_, _, rfl, rfl, .inr ⟨rfl, Nat.le_of_ble_eq_true rfl, Nat.le_of_ble_eq_true rfl⟩⟩ (Nat.le_of_ble_eq_true rfl) (Nat.le_of_ble_eq_true rfl) rfl trivial (len_6) (Nat.le_of_ble_eq_true rfl) rfl (Nat.le_of_ble_eq_true rfl) (Nat.le_of_ble_eq_true rfl) rfl rfl ?_
      refine P0.b GX4_stands 1 (ob := []) (cf' := (if 3 ≤ nI i165 then 49 else 24, [some (.ref (sB + 6)), some (.ref 0), some (.int (nI fr)), some (.int (nI (fr + c))), some (.int (nI i165))], [], [pI 160 tp])) rfl trivial ?_
      rw [if_neg (show ¬ (3 ≤ nI i165) from nI_ge hi165 (by decide))]
      refine P0.b GX4_stands 2 (ob := []) (cf' := (27, [some (.ref (sB + 6)), some (.ref 0), some (.int (nI fr)), some (.int (nI (fr + c))), some (.int (nI i165))], [.int (nI i165), .ref (sB + 6)], [pI 160 tp])) rfl trivial ?_
      refine P0.cr (io := []) (as := [.ref (sB + 6), .int (nI i165)]) (rest := []) (hc := []) (hc1 := []) (r1 := some (.int ((wq 6).getD i165 0))) (st' := [.int ((wq 6).getD i165 0)]) (h' := [pI 160 tp]) (d0 := 3) GJ0_charAt_5068e kX4_stands_27 rfl ⟨_, _, rfl, rfl, .inr ⟨rfl, Nat.le_of_ble_eq_true rfl, Nat.le_of_ble_eq_true rfl⟩⟩ (Nat.le_of_ble_eq_true rfl) (Nat.le_of_ble_eq_true rfl) rfl trivial (chAt_6 hi165) (Nat.le_of_ble_eq_true rfl) rfl (Nat.le_of_ble_eq_true rfl) (Nat.le_of_ble_eq_true rfl) rfl rfl ?_
      refine P0.b GX4_stands 4 (ob := []) (cf' := (35, [some (.ref (sB + 6)), some (.ref 0), some (.int (nI fr)), some (.int (nI (fr + c))), some (.int (nI i165))], [.int ((nI fr) + (nI i165)), .ref 0, .int ((wq 6).getD i165 0)], [pI 160 tp])) rfl trivial ?_
      rw [show (nI fr) + (nI i165) = nI (fr + i165) from nI_add _ _]
      refine P0.cr (io := [0]) (as := [.ref 0, .int (nI (fr + i165))]) (rest := [.int ((wq 6).getD i165 0)]) (hc := [pI 160 tp]) (hc1 := [pI 160 tp]) (r1 := some (.int (tp (fr + i165)))) (st' := [.int (tp (fr + i165)), .int ((wq 6).getD i165 0)]) (h' := [pI 160 tp]) (d0 := 0) GX5_at kX4_stands_35 rfl rfl (Nat.le_of_ble_eq_true rfl) (Nat.le_of_ble_eq_true rfl) rfl ⟨rfl, trivial⟩ (at_in (n := 160) (by decide) tp (k := (fr + i165)) (by omega)) (Nat.zero_le _) rfl (Nat.le_of_ble_eq_true rfl) (Nat.le_of_ble_eq_true rfl) rfl rfl ?_
      refine P0.b GX4_stands 1 (ob := []) (cf' := (if (wq 6).getD i165 0 = tp (fr + i165) then 43 else 41, [some (.ref (sB + 6)), some (.ref 0), some (.int (nI fr)), some (.int (nI (fr + c))), some (.int (nI i165))], [], [pI 160 tp])) rfl trivial ?_
      refine P0.if (fun h2 => ?_) (fun h2 => ?_)
      · refine P0.b GX4_stands 2 (ob := []) (cf' := (15, [some (.ref (sB + 6)), some (.ref 0), some (.int (nI fr)), some (.int (nI (fr + c))), some (.int ((nI i165) + 1))], [], [pI 160 tp])) rfl trivial ?_
        rw [show (nI i165) + 1 = nI (i165 + 1) from nI_add _ _]
        exact hk165 _ () rfl (all_s hI165 h2)
      · refine P0.b GX4_stands 1 (ob := []) (cf' := (42, [some (.ref (sB + 6)), some (.ref 0), some (.int (nI fr)), some (.int (nI (fr + c))), some (.int (nI i165))], [.int 0], [pI 160 tp])) rfl trivial ?_
        exact P0.ri (by decide +kernel) rfl (by rfl) ⟨congrArg (fun x => some (Value.int x)) (wd_no2 wqL_6 hi165 h2), rfl⟩
    · show P0 _ _ _ _ (15, [some (.ref (sB + 6)), some (.ref 0), some (.int (nI fr)), some (.int (nI (fr + c))), some (.int 3)], [], [pI 160 tp]) _
      refine P0.b GX4_stands 2 (ob := []) (cf' := (18, [some (.ref (sB + 6)), some (.ref 0), some (.int (nI fr)), some (.int (nI (fr + c))), some (.int 3)], [.ref (sB + 6), .int 3], [pI 160 tp])) rfl trivial ?_
      refine P0.cr (io := []) (as := [.ref (sB + 6)]) (rest := [.int 3]) (hc := []) (hc1 := []) (r1 := some (.int 3)) (st' := [.int 3, .int 3]) (h' := [pI 160 tp]) (d0 := 1) GJ0_len kX4_stands_18s rfl ⟨_, _, rfl, rfl, .inr ⟨rfl, Nat.le_of_ble_eq_true rfl, Nat.le_of_ble_eq_true rfl⟩⟩ (Nat.le_of_ble_eq_true rfl) (Nat.le_of_ble_eq_true rfl) rfl trivial (len_6) (Nat.le_of_ble_eq_true rfl) rfl (Nat.le_of_ble_eq_true rfl) (Nat.le_of_ble_eq_true rfl) rfl rfl ?_
      refine P0.b GX4_stands 1 (ob := []) (cf' := (if (3 : Int32) ≤ 3 then 49 else 24, [some (.ref (sB + 6)), some (.ref 0), some (.int (nI fr)), some (.int (nI (fr + c))), some (.int 3)], [], [pI 160 tp])) rfl trivial ?_
      rw [if_pos (show ((3 : Int32) ≤ 3) from by decide)]
      refine P0.b GX4_stands 1 (ob := []) (cf' := (50, [some (.ref (sB + 6)), some (.ref 0), some (.int (nI fr)), some (.int (nI (fr + c))), some (.int 3)], [.int 1], [pI 160 tp])) rfl trivial ?_
      exact P0.ri (by decide +kernel) rfl (by rfl) ⟨congrArg (fun x => some (Value.int x)) (wd_yes wqL_6 hc5 hI165), rfl⟩
  · refine P0.b GX4_stands 1 (ob := []) (cf' := (11, [some (.ref (sB + 6)), some (.ref 0), some (.int (nI fr)), some (.int (nI (fr + c))), none], [.int 0], [pI 160 tp])) rfl trivial ?_
    exact P0.ri (by decide +kernel) rfl (by rfl) ⟨congrArg (fun x => some (Value.int x)) (wd_no1 wqL_6 h1), rfl⟩
set_option maxHeartbeats 1000000 in
theorem coder_7 : P0 0 0 0 mJ0_coder_7d493 (0, ent 1 [.ref (sB + 7)], [], []) (fun r h' => r = some (.int 0) ∧ h' = []) := by
  refine P0.b GJ0_coder_7d493 2 (ob := []) (cf' := (if (1 : Int32) = 0 then 13 else 6, [some (.ref (sB + 7))], [], [])) rfl trivial ?_
  rw [if_neg (show ¬ ((1 : Int32) = 0) from by decide)]
  refine P0.b GJ0_coder_7d493 3 (ob := []) (cf' := (14, [some (.ref (sB + 7))], [.int 0], [])) rfl trivial ?_
  exact P0.ri (by decide +kernel) rfl (by rfl) ⟨rfl, rfl⟩
set_option maxHeartbeats 1000000 in
theorem latin_7 : P0 0 0 0 mJ0_isLatin1_aae02 (0, ent 1 [.ref (sB + 7)], [], []) (fun r h' => r = some (.int 1) ∧ h' = []) := by
  refine P0.b GJ0_isLatin1_aae02 2 (ob := []) (cf' := (if (1 : Int32) = 0 then 17 else 6, [some (.ref (sB + 7))], [], [])) rfl trivial ?_
  rw [if_neg (show ¬ ((1 : Int32) = 0) from by decide)]
  refine P0.b GJ0_isLatin1_aae02 3 (ob := []) (cf' := (if (0 : Int32) = 0 then 13 else 17, [some (.ref (sB + 7))], [], [])) rfl trivial ?_
  rw [if_pos (show ((0 : Int32) = 0) from by decide)]
  refine P0.b GJ0_isLatin1_aae02 2 (ob := []) (cf' := (18, [some (.ref (sB + 7))], [.int 1], [])) rfl trivial ?_
  exact P0.ri (by decide +kernel) rfl (by rfl) ⟨rfl, rfl⟩
set_option maxHeartbeats 1000000 in
theorem len_7 : P0 1 0 0 mJ0_len (0, ent 1 [.ref (sB + 7)], [], []) (fun r h' => r = some (.int 6) ∧ h' = []) := by
  refine P0.b GJ0_len 4 (ob := []) (cf' := (6, [some (.ref (sB + 7))], [.ref (sB + 7), .int 6], [])) rfl trivial ?_
  refine P0.cr (io := []) (as := [.ref (sB + 7)]) (rest := [.int 6]) (hc := []) (hc1 := []) (r1 := some (.int 0)) (st' := [.int 0, .int 6]) (h' := []) (d0 := 0) GJ0_coder_7d493 kJ0_len_6 rfl ⟨_, _, rfl, rfl, .inr ⟨rfl, Nat.le_of_ble_eq_true rfl, Nat.le_of_ble_eq_true rfl⟩⟩ (Nat.le_of_ble_eq_true rfl) (Nat.le_of_ble_eq_true rfl) rfl trivial (coder_7) (Nat.le_of_ble_eq_true rfl) rfl (Nat.le_of_ble_eq_true rfl) (Nat.le_of_ble_eq_true rfl) rfl rfl ?_
  refine P0.b GJ0_len 1 (ob := []) (cf' := (10, [some (.ref (sB + 7))], [.int ((6 : Int32) >>> (0 &&& 31))], [])) rfl trivial ?_
  exact P0.ri (by decide +kernel) rfl rfl ⟨by decide +kernel, rfl⟩
theorem ch_7 : ∀ i, i < 6 → (((strB.getD 7 []).getD i 0 &&& 255).toUInt32 % 65536).toInt32 = (wq 7).getD i 0 := by decide +kernel
theorem wqL_7 : (wq 7).length = 6 := by decide
theorem chn_7 : ∀ i, i < 6 → narrow .char (.int ((wq 7).getD i 0)) = .int ((wq 7).getD i 0) := by decide +kernel
set_option maxHeartbeats 1000000 in
theorem latAt_7 {i : Nat} (hi : i < 6) : P0 2 0 0 mJ1_charAt_3b067 (0, ent 2 [.ref (sB + 107), .int (nI i)], [], []) (fun r h' => r = some (.int ((wq 7).getD i 0)) ∧ h' = []) := by
  refine P0.b GJ1_charAt_3b067 3 (ob := []) (cf' := (3, [some (.ref (sB + 107)), some (.int (nI i))], [.int 6, .int (nI i)], [])) rfl trivial ?_
  refine P0.cr (io := []) (as := [.int (nI i), .int 6]) (rest := []) (hc := []) (hc1 := []) (r1 := none) (st' := []) (h' := []) (d0 := 1) GJ0_checkIndex_df160 kJ1_charAt_3b067_3 rfl rfl (Nat.le_of_ble_eq_true rfl) (Nat.le_of_ble_eq_true rfl) rfl trivial (chk_n hi (by decide)) (Nat.le_of_ble_eq_true rfl) rfl (Nat.le_of_ble_eq_true rfl) (Nat.le_of_ble_eq_true rfl) rfl rfl ?_
  refine P0.b GJ1_charAt_3b067 6 (ob := [vp_in (nI i) 6]) (cf' := (14, [some (.ref (sB + 107)), some (.int (nI i))], [.int (((((strB.getD 7 []).getD (nI i).toNatClampNeg 0) &&& 255).toUInt32 % 65536).toInt32)], [])) rfl ⟨nI_vp (by omega) (by decide), trivial⟩ ?_
  rw [show (nI i).toNatClampNeg = i from nI_clamp (by omega)]
  exact P0.ri (by decide +kernel) rfl (by rw [ch_7 i hi]; exact chn_7 i hi) ⟨congrArg (fun x => some (Value.int x)) (ch_7 i hi), rfl⟩
set_option maxHeartbeats 1000000 in
theorem chAt_7 {i : Nat} (hi : i < 6) : P0 3 0 0 mJ0_charAt_5068e (0, ent 2 [.ref (sB + 7), .int (nI i)], [], []) (fun r h' => r = some (.int ((wq 7).getD i 0)) ∧ h' = []) := by
  refine P0.b GJ0_charAt_5068e 1 (ob := []) (cf' := (1, [some (.ref (sB + 7)), some (.int (nI i))], [.ref (sB + 7)], [])) rfl trivial ?_
  refine P0.cr (io := []) (as := [.ref (sB + 7)]) (rest := []) (hc := []) (hc1 := []) (r1 := some (.int 1)) (st' := [.int 1]) (h' := []) (d0 := 0) GJ0_isLatin1_aae02 kJ0_charAt_5068e_1 rfl ⟨_, _, rfl, rfl, .inr ⟨rfl, Nat.le_of_ble_eq_true rfl, Nat.le_of_ble_eq_true rfl⟩⟩ (Nat.le_of_ble_eq_true rfl) (Nat.le_of_ble_eq_true rfl) rfl trivial (latin_7) (Nat.le_of_ble_eq_true rfl) rfl (Nat.le_of_ble_eq_true rfl) (Nat.le_of_ble_eq_true rfl) rfl rfl ?_
  refine P0.b GJ0_charAt_5068e 1 (ob := []) (cf' := (if (1 : Int32) = 0 then 16 else 7, [some (.ref (sB + 7)), some (.int (nI i))], [], [])) rfl trivial ?_
  rw [if_neg (show ¬ ((1 : Int32) = 0) from by decide)]
  refine P0.b GJ0_charAt_5068e 3 (ob := []) (cf' := (12, [some (.ref (sB + 7)), some (.int (nI i))], [.int (nI i), .ref (sB + 107)], [])) rfl trivial ?_
  refine P0.cr (io := []) (as := [.ref (sB + 107), .int (nI i)]) (rest := []) (hc := []) (hc1 := []) (r1 := some (.int ((wq 7).getD i 0))) (st' := [.int ((wq 7).getD i 0)]) (h' := []) (d0 := 2) GJ1_charAt_3b067 kJ0_charAt_5068e_12 rfl rfl (Nat.le_of_ble_eq_true rfl) (Nat.le_of_ble_eq_true rfl) rfl trivial (latAt_7 hi) (Nat.le_of_ble_eq_true rfl) rfl (Nat.le_of_ble_eq_true rfl) (Nat.le_of_ble_eq_true rfl) rfl rfl ?_
  exact P0.ri (by decide +kernel) rfl (by exact chn_7 i hi) ⟨rfl, rfl⟩
set_option maxHeartbeats 1000000 in
theorem stands_7 {tp : Nat → Int32} {fr c : Nat} (hfc : fr + c ≤ 160) : P0 4 0 0 mX4_stands (0, ent 5 [.ref (sB + 7), .ref 0, .int (nI fr), .int (nI (fr + c))], [], [pI 160 tp]) (fun r h' => r = some (.int (if isWd (wq 7) tp fr (fr + c) = true then 1 else 0)) ∧ h' = [pI 160 tp]) := by
  refine P0.b GX4_stands 1 (ob := []) (cf' := (1, [some (.ref (sB + 7)), some (.ref 0), some (.int (nI fr)), some (.int (nI (fr + c))), none], [.ref (sB + 7)], [pI 160 tp])) rfl trivial ?_
  refine P0.cr (io := []) (as := [.ref (sB + 7)]) (rest := []) (hc := []) (hc1 := []) (r1 := some (.int 6)) (st' := [.int 6]) (h' := [pI 160 tp]) (d0 := 1) GJ0_len kX4_stands_1s rfl ⟨_, _, rfl, rfl, .inr ⟨rfl, Nat.le_of_ble_eq_true rfl, Nat.le_of_ble_eq_true rfl⟩⟩ (Nat.le_of_ble_eq_true rfl) (Nat.le_of_ble_eq_true rfl) rfl trivial (len_7) (Nat.le_of_ble_eq_true rfl) rfl (Nat.le_of_ble_eq_true rfl) (Nat.le_of_ble_eq_true rfl) rfl rfl ?_
  refine P0.b GX4_stands 4 (ob := []) (cf' := (if 6 = (nI (fr + c)) - (nI fr) then 12 else 10, [some (.ref (sB + 7)), some (.ref 0), some (.int (nI fr)), some (.int (nI (fr + c))), none], [], [pI 160 tp])) rfl trivial ?_
  rw [show (nI (fr + c)) - (nI fr) = nI c from nI_subA fr c]
  refine P0.if (fun h1 => ?_) (fun h1 => ?_)
  · refine P0.b GX4_stands 2 (ob := []) (cf' := (15, [some (.ref (sB + 7)), some (.ref 0), some (.int (nI fr)), some (.int (nI (fr + c))), some (.int 0)], [], [pI 160 tp])) rfl trivial ?_
    have hc5 : c = 6 := wd_c (by omega) (by decide) h1
    refine P0.loopI (N := 6) (fun i (_ : Unit) => ∀ j, j < i → (wq 7).getD j 0 = tp (fr + j)) (fun x166 v166 => (15, [some (.ref (sB + 7)), some (.ref 0), some (.int (nI fr)), some (.int (nI (fr + c))), some (.int x166)], [], [pI 160 tp])) (fun i166 v166 hi166 hI166 hk166 => ?_) (fun v166 hI166 => ?_) 0 () nI_0.symm (fun j hj => absurd hj (Nat.not_lt_zero j))
    · show P0 _ _ _ _ (15, [some (.ref (sB + 7)), some (.ref 0), some (.int (nI fr)), some (.int (nI (fr + c))), some (.int (nI i166))], [], [pI 160 tp]) _
      refine P0.b GX4_stands 2 (ob := []) (cf' := (18, [some (.ref (sB + 7)), some (.ref 0), some (.int (nI fr)), some (.int (nI (fr + c))), some (.int (nI i166))], [.ref (sB + 7), .int (nI i166)], [pI 160 tp])) rfl trivial ?_
      refine P0.cr (io := []) (as := [.ref (sB + 7)]) (rest := [.int (nI i166)]) (hc := []) (hc1 := []) (r1 := some (.int 6)) (st' := [.int 6, .int (nI i166)]) (h' := [pI 160 tp]) (d0 := 1) GJ0_len kX4_stands_18s rfl ⟨_, _, rfl, rfl, .inr ⟨rfl, Nat.le_of_ble_eq_true rfl, Nat.le_of_ble_eq_true rfl⟩⟩ (Nat.le_of_ble_eq_true rfl) (Nat.le_of_ble_eq_true rfl) rfl trivial (len_7) (Nat.le_of_ble_eq_true rfl) rfl (Nat.le_of_ble_eq_true rfl) (Nat.le_of_ble_eq_true rfl) rfl rfl ?_
      refine P0.b GX4_stands 1 (ob := []) (cf' := (if 6 ≤ nI i166 then 49 else 24, [some (.ref (sB + 7)), some (.ref 0), some (.int (nI fr)), some (.int (nI (fr + c))), some (.int (nI i166))], [], [pI 160 tp])) rfl trivial ?_
      rw [if_neg (show ¬ (6 ≤ nI i166) from nI_ge hi166 (by decide))]
      refine P0.b GX4_stands 2 (ob := []) (cf' := (27, [some (.ref (sB + 7)), some (.ref 0), some (.int (nI fr)), some (.int (nI (fr + c))), some (.int (nI i166))], [.int (nI i166), .ref (sB + 7)], [pI 160 tp])) rfl trivial ?_
      refine P0.cr (io := []) (as := [.ref (sB + 7), .int (nI i166)]) (rest := []) (hc := []) (hc1 := []) (r1 := some (.int ((wq 7).getD i166 0))) (st' := [.int ((wq 7).getD i166 0)]) (h' := [pI 160 tp]) (d0 := 3) GJ0_charAt_5068e kX4_stands_27 rfl ⟨_, _, rfl, rfl, .inr ⟨rfl, Nat.le_of_ble_eq_true rfl, Nat.le_of_ble_eq_true rfl⟩⟩ (Nat.le_of_ble_eq_true rfl) (Nat.le_of_ble_eq_true rfl) rfl trivial (chAt_7 hi166) (Nat.le_of_ble_eq_true rfl) rfl (Nat.le_of_ble_eq_true rfl) (Nat.le_of_ble_eq_true rfl) rfl rfl ?_
      refine P0.b GX4_stands 4 (ob := []) (cf' := (35, [some (.ref (sB + 7)), some (.ref 0), some (.int (nI fr)), some (.int (nI (fr + c))), some (.int (nI i166))], [.int ((nI fr) + (nI i166)), .ref 0, .int ((wq 7).getD i166 0)], [pI 160 tp])) rfl trivial ?_
      rw [show (nI fr) + (nI i166) = nI (fr + i166) from nI_add _ _]
      refine P0.cr (io := [0]) (as := [.ref 0, .int (nI (fr + i166))]) (rest := [.int ((wq 7).getD i166 0)]) (hc := [pI 160 tp]) (hc1 := [pI 160 tp]) (r1 := some (.int (tp (fr + i166)))) (st' := [.int (tp (fr + i166)), .int ((wq 7).getD i166 0)]) (h' := [pI 160 tp]) (d0 := 0) GX5_at kX4_stands_35 rfl rfl (Nat.le_of_ble_eq_true rfl) (Nat.le_of_ble_eq_true rfl) rfl ⟨rfl, trivial⟩ (at_in (n := 160) (by decide) tp (k := (fr + i166)) (by omega)) (Nat.zero_le _) rfl (Nat.le_of_ble_eq_true rfl) (Nat.le_of_ble_eq_true rfl) rfl rfl ?_
      refine P0.b GX4_stands 1 (ob := []) (cf' := (if (wq 7).getD i166 0 = tp (fr + i166) then 43 else 41, [some (.ref (sB + 7)), some (.ref 0), some (.int (nI fr)), some (.int (nI (fr + c))), some (.int (nI i166))], [], [pI 160 tp])) rfl trivial ?_
      refine P0.if (fun h2 => ?_) (fun h2 => ?_)
      · refine P0.b GX4_stands 2 (ob := []) (cf' := (15, [some (.ref (sB + 7)), some (.ref 0), some (.int (nI fr)), some (.int (nI (fr + c))), some (.int ((nI i166) + 1))], [], [pI 160 tp])) rfl trivial ?_
        rw [show (nI i166) + 1 = nI (i166 + 1) from nI_add _ _]
        exact hk166 _ () rfl (all_s hI166 h2)
      · refine P0.b GX4_stands 1 (ob := []) (cf' := (42, [some (.ref (sB + 7)), some (.ref 0), some (.int (nI fr)), some (.int (nI (fr + c))), some (.int (nI i166))], [.int 0], [pI 160 tp])) rfl trivial ?_
        exact P0.ri (by decide +kernel) rfl (by rfl) ⟨congrArg (fun x => some (Value.int x)) (wd_no2 wqL_7 hi166 h2), rfl⟩
    · show P0 _ _ _ _ (15, [some (.ref (sB + 7)), some (.ref 0), some (.int (nI fr)), some (.int (nI (fr + c))), some (.int 6)], [], [pI 160 tp]) _
      refine P0.b GX4_stands 2 (ob := []) (cf' := (18, [some (.ref (sB + 7)), some (.ref 0), some (.int (nI fr)), some (.int (nI (fr + c))), some (.int 6)], [.ref (sB + 7), .int 6], [pI 160 tp])) rfl trivial ?_
      refine P0.cr (io := []) (as := [.ref (sB + 7)]) (rest := [.int 6]) (hc := []) (hc1 := []) (r1 := some (.int 6)) (st' := [.int 6, .int 6]) (h' := [pI 160 tp]) (d0 := 1) GJ0_len kX4_stands_18s rfl ⟨_, _, rfl, rfl, .inr ⟨rfl, Nat.le_of_ble_eq_true rfl, Nat.le_of_ble_eq_true rfl⟩⟩ (Nat.le_of_ble_eq_true rfl) (Nat.le_of_ble_eq_true rfl) rfl trivial (len_7) (Nat.le_of_ble_eq_true rfl) rfl (Nat.le_of_ble_eq_true rfl) (Nat.le_of_ble_eq_true rfl) rfl rfl ?_
      refine P0.b GX4_stands 1 (ob := []) (cf' := (if (6 : Int32) ≤ 6 then 49 else 24, [some (.ref (sB + 7)), some (.ref 0), some (.int (nI fr)), some (.int (nI (fr + c))), some (.int 6)], [], [pI 160 tp])) rfl trivial ?_
      rw [if_pos (show ((6 : Int32) ≤ 6) from by decide)]
      refine P0.b GX4_stands 1 (ob := []) (cf' := (50, [some (.ref (sB + 7)), some (.ref 0), some (.int (nI fr)), some (.int (nI (fr + c))), some (.int 6)], [.int 1], [pI 160 tp])) rfl trivial ?_
      exact P0.ri (by decide +kernel) rfl (by rfl) ⟨congrArg (fun x => some (Value.int x)) (wd_yes wqL_7 hc5 hI166), rfl⟩
  · refine P0.b GX4_stands 1 (ob := []) (cf' := (11, [some (.ref (sB + 7)), some (.ref 0), some (.int (nI fr)), some (.int (nI (fr + c))), none], [.int 0], [pI 160 tp])) rfl trivial ?_
    exact P0.ri (by decide +kernel) rfl (by rfl) ⟨congrArg (fun x => some (Value.int x)) (wd_no1 wqL_7 h1), rfl⟩
set_option maxHeartbeats 1000000 in
theorem coder_8 : P0 0 0 0 mJ0_coder_7d493 (0, ent 1 [.ref (sB + 8)], [], []) (fun r h' => r = some (.int 0) ∧ h' = []) := by
  refine P0.b GJ0_coder_7d493 2 (ob := []) (cf' := (if (1 : Int32) = 0 then 13 else 6, [some (.ref (sB + 8))], [], [])) rfl trivial ?_
  rw [if_neg (show ¬ ((1 : Int32) = 0) from by decide)]
  refine P0.b GJ0_coder_7d493 3 (ob := []) (cf' := (14, [some (.ref (sB + 8))], [.int 0], [])) rfl trivial ?_
  exact P0.ri (by decide +kernel) rfl (by rfl) ⟨rfl, rfl⟩
set_option maxHeartbeats 1000000 in
theorem latin_8 : P0 0 0 0 mJ0_isLatin1_aae02 (0, ent 1 [.ref (sB + 8)], [], []) (fun r h' => r = some (.int 1) ∧ h' = []) := by
  refine P0.b GJ0_isLatin1_aae02 2 (ob := []) (cf' := (if (1 : Int32) = 0 then 17 else 6, [some (.ref (sB + 8))], [], [])) rfl trivial ?_
  rw [if_neg (show ¬ ((1 : Int32) = 0) from by decide)]
  refine P0.b GJ0_isLatin1_aae02 3 (ob := []) (cf' := (if (0 : Int32) = 0 then 13 else 17, [some (.ref (sB + 8))], [], [])) rfl trivial ?_
  rw [if_pos (show ((0 : Int32) = 0) from by decide)]
  refine P0.b GJ0_isLatin1_aae02 2 (ob := []) (cf' := (18, [some (.ref (sB + 8))], [.int 1], [])) rfl trivial ?_
  exact P0.ri (by decide +kernel) rfl (by rfl) ⟨rfl, rfl⟩
set_option maxHeartbeats 1000000 in
theorem len_8 : P0 1 0 0 mJ0_len (0, ent 1 [.ref (sB + 8)], [], []) (fun r h' => r = some (.int 5) ∧ h' = []) := by
  refine P0.b GJ0_len 4 (ob := []) (cf' := (6, [some (.ref (sB + 8))], [.ref (sB + 8), .int 5], [])) rfl trivial ?_
  refine P0.cr (io := []) (as := [.ref (sB + 8)]) (rest := [.int 5]) (hc := []) (hc1 := []) (r1 := some (.int 0)) (st' := [.int 0, .int 5]) (h' := []) (d0 := 0) GJ0_coder_7d493 kJ0_len_6 rfl ⟨_, _, rfl, rfl, .inr ⟨rfl, Nat.le_of_ble_eq_true rfl, Nat.le_of_ble_eq_true rfl⟩⟩ (Nat.le_of_ble_eq_true rfl) (Nat.le_of_ble_eq_true rfl) rfl trivial (coder_8) (Nat.le_of_ble_eq_true rfl) rfl (Nat.le_of_ble_eq_true rfl) (Nat.le_of_ble_eq_true rfl) rfl rfl ?_
  refine P0.b GJ0_len 1 (ob := []) (cf' := (10, [some (.ref (sB + 8))], [.int ((5 : Int32) >>> (0 &&& 31))], [])) rfl trivial ?_
  exact P0.ri (by decide +kernel) rfl rfl ⟨by decide +kernel, rfl⟩
theorem ch_8 : ∀ i, i < 5 → (((strB.getD 8 []).getD i 0 &&& 255).toUInt32 % 65536).toInt32 = (wq 8).getD i 0 := by decide +kernel
theorem wqL_8 : (wq 8).length = 5 := by decide
theorem chn_8 : ∀ i, i < 5 → narrow .char (.int ((wq 8).getD i 0)) = .int ((wq 8).getD i 0) := by decide +kernel
set_option maxHeartbeats 1000000 in
theorem latAt_8 {i : Nat} (hi : i < 5) : P0 2 0 0 mJ1_charAt_3b067 (0, ent 2 [.ref (sB + 108), .int (nI i)], [], []) (fun r h' => r = some (.int ((wq 8).getD i 0)) ∧ h' = []) := by
  refine P0.b GJ1_charAt_3b067 3 (ob := []) (cf' := (3, [some (.ref (sB + 108)), some (.int (nI i))], [.int 5, .int (nI i)], [])) rfl trivial ?_
  refine P0.cr (io := []) (as := [.int (nI i), .int 5]) (rest := []) (hc := []) (hc1 := []) (r1 := none) (st' := []) (h' := []) (d0 := 1) GJ0_checkIndex_df160 kJ1_charAt_3b067_3 rfl rfl (Nat.le_of_ble_eq_true rfl) (Nat.le_of_ble_eq_true rfl) rfl trivial (chk_n hi (by decide)) (Nat.le_of_ble_eq_true rfl) rfl (Nat.le_of_ble_eq_true rfl) (Nat.le_of_ble_eq_true rfl) rfl rfl ?_
  refine P0.b GJ1_charAt_3b067 6 (ob := [vp_in (nI i) 5]) (cf' := (14, [some (.ref (sB + 108)), some (.int (nI i))], [.int (((((strB.getD 8 []).getD (nI i).toNatClampNeg 0) &&& 255).toUInt32 % 65536).toInt32)], [])) rfl ⟨nI_vp (by omega) (by decide), trivial⟩ ?_
  rw [show (nI i).toNatClampNeg = i from nI_clamp (by omega)]
  exact P0.ri (by decide +kernel) rfl (by rw [ch_8 i hi]; exact chn_8 i hi) ⟨congrArg (fun x => some (Value.int x)) (ch_8 i hi), rfl⟩
set_option maxHeartbeats 1000000 in
theorem chAt_8 {i : Nat} (hi : i < 5) : P0 3 0 0 mJ0_charAt_5068e (0, ent 2 [.ref (sB + 8), .int (nI i)], [], []) (fun r h' => r = some (.int ((wq 8).getD i 0)) ∧ h' = []) := by
  refine P0.b GJ0_charAt_5068e 1 (ob := []) (cf' := (1, [some (.ref (sB + 8)), some (.int (nI i))], [.ref (sB + 8)], [])) rfl trivial ?_
  refine P0.cr (io := []) (as := [.ref (sB + 8)]) (rest := []) (hc := []) (hc1 := []) (r1 := some (.int 1)) (st' := [.int 1]) (h' := []) (d0 := 0) GJ0_isLatin1_aae02 kJ0_charAt_5068e_1 rfl ⟨_, _, rfl, rfl, .inr ⟨rfl, Nat.le_of_ble_eq_true rfl, Nat.le_of_ble_eq_true rfl⟩⟩ (Nat.le_of_ble_eq_true rfl) (Nat.le_of_ble_eq_true rfl) rfl trivial (latin_8) (Nat.le_of_ble_eq_true rfl) rfl (Nat.le_of_ble_eq_true rfl) (Nat.le_of_ble_eq_true rfl) rfl rfl ?_
  refine P0.b GJ0_charAt_5068e 1 (ob := []) (cf' := (if (1 : Int32) = 0 then 16 else 7, [some (.ref (sB + 8)), some (.int (nI i))], [], [])) rfl trivial ?_
  rw [if_neg (show ¬ ((1 : Int32) = 0) from by decide)]
  refine P0.b GJ0_charAt_5068e 3 (ob := []) (cf' := (12, [some (.ref (sB + 8)), some (.int (nI i))], [.int (nI i), .ref (sB + 108)], [])) rfl trivial ?_
  refine P0.cr (io := []) (as := [.ref (sB + 108), .int (nI i)]) (rest := []) (hc := []) (hc1 := []) (r1 := some (.int ((wq 8).getD i 0))) (st' := [.int ((wq 8).getD i 0)]) (h' := []) (d0 := 2) GJ1_charAt_3b067 kJ0_charAt_5068e_12 rfl rfl (Nat.le_of_ble_eq_true rfl) (Nat.le_of_ble_eq_true rfl) rfl trivial (latAt_8 hi) (Nat.le_of_ble_eq_true rfl) rfl (Nat.le_of_ble_eq_true rfl) (Nat.le_of_ble_eq_true rfl) rfl rfl ?_
  exact P0.ri (by decide +kernel) rfl (by exact chn_8 i hi) ⟨rfl, rfl⟩
set_option maxHeartbeats 1000000 in
theorem stands_8 {tp : Nat → Int32} {fr c : Nat} (hfc : fr + c ≤ 160) : P0 4 0 0 mX4_stands (0, ent 5 [.ref (sB + 8), .ref 0, .int (nI fr), .int (nI (fr + c))], [], [pI 160 tp]) (fun r h' => r = some (.int (if isWd (wq 8) tp fr (fr + c) = true then 1 else 0)) ∧ h' = [pI 160 tp]) := by
  refine P0.b GX4_stands 1 (ob := []) (cf' := (1, [some (.ref (sB + 8)), some (.ref 0), some (.int (nI fr)), some (.int (nI (fr + c))), none], [.ref (sB + 8)], [pI 160 tp])) rfl trivial ?_
  refine P0.cr (io := []) (as := [.ref (sB + 8)]) (rest := []) (hc := []) (hc1 := []) (r1 := some (.int 5)) (st' := [.int 5]) (h' := [pI 160 tp]) (d0 := 1) GJ0_len kX4_stands_1s rfl ⟨_, _, rfl, rfl, .inr ⟨rfl, Nat.le_of_ble_eq_true rfl, Nat.le_of_ble_eq_true rfl⟩⟩ (Nat.le_of_ble_eq_true rfl) (Nat.le_of_ble_eq_true rfl) rfl trivial (len_8) (Nat.le_of_ble_eq_true rfl) rfl (Nat.le_of_ble_eq_true rfl) (Nat.le_of_ble_eq_true rfl) rfl rfl ?_
  refine P0.b GX4_stands 4 (ob := []) (cf' := (if 5 = (nI (fr + c)) - (nI fr) then 12 else 10, [some (.ref (sB + 8)), some (.ref 0), some (.int (nI fr)), some (.int (nI (fr + c))), none], [], [pI 160 tp])) rfl trivial ?_
  rw [show (nI (fr + c)) - (nI fr) = nI c from nI_subA fr c]
  refine P0.if (fun h1 => ?_) (fun h1 => ?_)
  · refine P0.b GX4_stands 2 (ob := []) (cf' := (15, [some (.ref (sB + 8)), some (.ref 0), some (.int (nI fr)), some (.int (nI (fr + c))), some (.int 0)], [], [pI 160 tp])) rfl trivial ?_
    have hc5 : c = 5 := wd_c (by omega) (by decide) h1
    refine P0.loopI (N := 5) (fun i (_ : Unit) => ∀ j, j < i → (wq 8).getD j 0 = tp (fr + j)) (fun x167 v167 => (15, [some (.ref (sB + 8)), some (.ref 0), some (.int (nI fr)), some (.int (nI (fr + c))), some (.int x167)], [], [pI 160 tp])) (fun i167 v167 hi167 hI167 hk167 => ?_) (fun v167 hI167 => ?_) 0 () nI_0.symm (fun j hj => absurd hj (Nat.not_lt_zero j))
    · show P0 _ _ _ _ (15, [some (.ref (sB + 8)), some (.ref 0), some (.int (nI fr)), some (.int (nI (fr + c))), some (.int (nI i167))], [], [pI 160 tp]) _
      refine P0.b GX4_stands 2 (ob := []) (cf' := (18, [some (.ref (sB + 8)), some (.ref 0), some (.int (nI fr)), some (.int (nI (fr + c))), some (.int (nI i167))], [.ref (sB + 8), .int (nI i167)], [pI 160 tp])) rfl trivial ?_
      refine P0.cr (io := []) (as := [.ref (sB + 8)]) (rest := [.int (nI i167)]) (hc := []) (hc1 := []) (r1 := some (.int 5)) (st' := [.int 5, .int (nI i167)]) (h' := [pI 160 tp]) (d0 := 1) GJ0_len kX4_stands_18s rfl ⟨_, _, rfl, rfl, .inr ⟨rfl, Nat.le_of_ble_eq_true rfl, Nat.le_of_ble_eq_true rfl⟩⟩ (Nat.le_of_ble_eq_true rfl) (Nat.le_of_ble_eq_true rfl) rfl trivial (len_8) (Nat.le_of_ble_eq_true rfl) rfl (Nat.le_of_ble_eq_true rfl) (Nat.le_of_ble_eq_true rfl) rfl rfl ?_
      refine P0.b GX4_stands 1 (ob := []) (cf' := (if 5 ≤ nI i167 then 49 else 24, [some (.ref (sB + 8)), some (.ref 0), some (.int (nI fr)), some (.int (nI (fr + c))), some (.int (nI i167))], [], [pI 160 tp])) rfl trivial ?_
      rw [if_neg (show ¬ (5 ≤ nI i167) from nI_ge hi167 (by decide))]
      refine P0.b GX4_stands 2 (ob := []) (cf' := (27, [some (.ref (sB + 8)), some (.ref 0), some (.int (nI fr)), some (.int (nI (fr + c))), some (.int (nI i167))], [.int (nI i167), .ref (sB + 8)], [pI 160 tp])) rfl trivial ?_
      refine P0.cr (io := []) (as := [.ref (sB + 8), .int (nI i167)]) (rest := []) (hc := []) (hc1 := []) (r1 := some (.int ((wq 8).getD i167 0))) (st' := [.int ((wq 8).getD i167 0)]) (h' := [pI 160 tp]) (d0 := 3) GJ0_charAt_5068e kX4_stands_27 rfl ⟨_, _, rfl, rfl, .inr ⟨rfl, Nat.le_of_ble_eq_true rfl, Nat.le_of_ble_eq_true rfl⟩⟩ (Nat.le_of_ble_eq_true rfl) (Nat.le_of_ble_eq_true rfl) rfl trivial (chAt_8 hi167) (Nat.le_of_ble_eq_true rfl) rfl (Nat.le_of_ble_eq_true rfl) (Nat.le_of_ble_eq_true rfl) rfl rfl ?_
      refine P0.b GX4_stands 4 (ob := []) (cf' := (35, [some (.ref (sB + 8)), some (.ref 0), some (.int (nI fr)), some (.int (nI (fr + c))), some (.int (nI i167))], [.int ((nI fr) + (nI i167)), .ref 0, .int ((wq 8).getD i167 0)], [pI 160 tp])) rfl trivial ?_
      rw [show (nI fr) + (nI i167) = nI (fr + i167) from nI_add _ _]
      refine P0.cr (io := [0]) (as := [.ref 0, .int (nI (fr + i167))]) (rest := [.int ((wq 8).getD i167 0)]) (hc := [pI 160 tp]) (hc1 := [pI 160 tp]) (r1 := some (.int (tp (fr + i167)))) (st' := [.int (tp (fr + i167)), .int ((wq 8).getD i167 0)]) (h' := [pI 160 tp]) (d0 := 0) GX5_at kX4_stands_35 rfl rfl (Nat.le_of_ble_eq_true rfl) (Nat.le_of_ble_eq_true rfl) rfl ⟨rfl, trivial⟩ (at_in (n := 160) (by decide) tp (k := (fr + i167)) (by omega)) (Nat.zero_le _) rfl (Nat.le_of_ble_eq_true rfl) (Nat.le_of_ble_eq_true rfl) rfl rfl ?_
      refine P0.b GX4_stands 1 (ob := []) (cf' := (if (wq 8).getD i167 0 = tp (fr + i167) then 43 else 41, [some (.ref (sB + 8)), some (.ref 0), some (.int (nI fr)), some (.int (nI (fr + c))), some (.int (nI i167))], [], [pI 160 tp])) rfl trivial ?_
      refine P0.if (fun h2 => ?_) (fun h2 => ?_)
      · refine P0.b GX4_stands 2 (ob := []) (cf' := (15, [some (.ref (sB + 8)), some (.ref 0), some (.int (nI fr)), some (.int (nI (fr + c))), some (.int ((nI i167) + 1))], [], [pI 160 tp])) rfl trivial ?_
        rw [show (nI i167) + 1 = nI (i167 + 1) from nI_add _ _]
        exact hk167 _ () rfl (all_s hI167 h2)
      · refine P0.b GX4_stands 1 (ob := []) (cf' := (42, [some (.ref (sB + 8)), some (.ref 0), some (.int (nI fr)), some (.int (nI (fr + c))), some (.int (nI i167))], [.int 0], [pI 160 tp])) rfl trivial ?_
        exact P0.ri (by decide +kernel) rfl (by rfl) ⟨congrArg (fun x => some (Value.int x)) (wd_no2 wqL_8 hi167 h2), rfl⟩
    · show P0 _ _ _ _ (15, [some (.ref (sB + 8)), some (.ref 0), some (.int (nI fr)), some (.int (nI (fr + c))), some (.int 5)], [], [pI 160 tp]) _
      refine P0.b GX4_stands 2 (ob := []) (cf' := (18, [some (.ref (sB + 8)), some (.ref 0), some (.int (nI fr)), some (.int (nI (fr + c))), some (.int 5)], [.ref (sB + 8), .int 5], [pI 160 tp])) rfl trivial ?_
      refine P0.cr (io := []) (as := [.ref (sB + 8)]) (rest := [.int 5]) (hc := []) (hc1 := []) (r1 := some (.int 5)) (st' := [.int 5, .int 5]) (h' := [pI 160 tp]) (d0 := 1) GJ0_len kX4_stands_18s rfl ⟨_, _, rfl, rfl, .inr ⟨rfl, Nat.le_of_ble_eq_true rfl, Nat.le_of_ble_eq_true rfl⟩⟩ (Nat.le_of_ble_eq_true rfl) (Nat.le_of_ble_eq_true rfl) rfl trivial (len_8) (Nat.le_of_ble_eq_true rfl) rfl (Nat.le_of_ble_eq_true rfl) (Nat.le_of_ble_eq_true rfl) rfl rfl ?_
      refine P0.b GX4_stands 1 (ob := []) (cf' := (if (5 : Int32) ≤ 5 then 49 else 24, [some (.ref (sB + 8)), some (.ref 0), some (.int (nI fr)), some (.int (nI (fr + c))), some (.int 5)], [], [pI 160 tp])) rfl trivial ?_
      rw [if_pos (show ((5 : Int32) ≤ 5) from by decide)]
      refine P0.b GX4_stands 1 (ob := []) (cf' := (50, [some (.ref (sB + 8)), some (.ref 0), some (.int (nI fr)), some (.int (nI (fr + c))), some (.int 5)], [.int 1], [pI 160 tp])) rfl trivial ?_
      exact P0.ri (by decide +kernel) rfl (by rfl) ⟨congrArg (fun x => some (Value.int x)) (wd_yes wqL_8 hc5 hI167), rfl⟩
  · refine P0.b GX4_stands 1 (ob := []) (cf' := (11, [some (.ref (sB + 8)), some (.ref 0), some (.int (nI fr)), some (.int (nI (fr + c))), none], [.int 0], [pI 160 tp])) rfl trivial ?_
    exact P0.ri (by decide +kernel) rfl (by rfl) ⟨congrArg (fun x => some (Value.int x)) (wd_no1 wqL_8 h1), rfl⟩
set_option maxHeartbeats 1000000 in
theorem coder_9 : P0 0 0 0 mJ0_coder_7d493 (0, ent 1 [.ref (sB + 9)], [], []) (fun r h' => r = some (.int 0) ∧ h' = []) := by
  refine P0.b GJ0_coder_7d493 2 (ob := []) (cf' := (if (1 : Int32) = 0 then 13 else 6, [some (.ref (sB + 9))], [], [])) rfl trivial ?_
  rw [if_neg (show ¬ ((1 : Int32) = 0) from by decide)]
  refine P0.b GJ0_coder_7d493 3 (ob := []) (cf' := (14, [some (.ref (sB + 9))], [.int 0], [])) rfl trivial ?_
  exact P0.ri (by decide +kernel) rfl (by rfl) ⟨rfl, rfl⟩
set_option maxHeartbeats 1000000 in
theorem latin_9 : P0 0 0 0 mJ0_isLatin1_aae02 (0, ent 1 [.ref (sB + 9)], [], []) (fun r h' => r = some (.int 1) ∧ h' = []) := by
  refine P0.b GJ0_isLatin1_aae02 2 (ob := []) (cf' := (if (1 : Int32) = 0 then 17 else 6, [some (.ref (sB + 9))], [], [])) rfl trivial ?_
  rw [if_neg (show ¬ ((1 : Int32) = 0) from by decide)]
  refine P0.b GJ0_isLatin1_aae02 3 (ob := []) (cf' := (if (0 : Int32) = 0 then 13 else 17, [some (.ref (sB + 9))], [], [])) rfl trivial ?_
  rw [if_pos (show ((0 : Int32) = 0) from by decide)]
  refine P0.b GJ0_isLatin1_aae02 2 (ob := []) (cf' := (18, [some (.ref (sB + 9))], [.int 1], [])) rfl trivial ?_
  exact P0.ri (by decide +kernel) rfl (by rfl) ⟨rfl, rfl⟩
set_option maxHeartbeats 1000000 in
theorem len_9 : P0 1 0 0 mJ0_len (0, ent 1 [.ref (sB + 9)], [], []) (fun r h' => r = some (.int 5) ∧ h' = []) := by
  refine P0.b GJ0_len 4 (ob := []) (cf' := (6, [some (.ref (sB + 9))], [.ref (sB + 9), .int 5], [])) rfl trivial ?_
  refine P0.cr (io := []) (as := [.ref (sB + 9)]) (rest := [.int 5]) (hc := []) (hc1 := []) (r1 := some (.int 0)) (st' := [.int 0, .int 5]) (h' := []) (d0 := 0) GJ0_coder_7d493 kJ0_len_6 rfl ⟨_, _, rfl, rfl, .inr ⟨rfl, Nat.le_of_ble_eq_true rfl, Nat.le_of_ble_eq_true rfl⟩⟩ (Nat.le_of_ble_eq_true rfl) (Nat.le_of_ble_eq_true rfl) rfl trivial (coder_9) (Nat.le_of_ble_eq_true rfl) rfl (Nat.le_of_ble_eq_true rfl) (Nat.le_of_ble_eq_true rfl) rfl rfl ?_
  refine P0.b GJ0_len 1 (ob := []) (cf' := (10, [some (.ref (sB + 9))], [.int ((5 : Int32) >>> (0 &&& 31))], [])) rfl trivial ?_
  exact P0.ri (by decide +kernel) rfl rfl ⟨by decide +kernel, rfl⟩
theorem ch_9 : ∀ i, i < 5 → (((strB.getD 9 []).getD i 0 &&& 255).toUInt32 % 65536).toInt32 = (wq 9).getD i 0 := by decide +kernel
theorem wqL_9 : (wq 9).length = 5 := by decide
theorem chn_9 : ∀ i, i < 5 → narrow .char (.int ((wq 9).getD i 0)) = .int ((wq 9).getD i 0) := by decide +kernel
set_option maxHeartbeats 1000000 in
theorem latAt_9 {i : Nat} (hi : i < 5) : P0 2 0 0 mJ1_charAt_3b067 (0, ent 2 [.ref (sB + 109), .int (nI i)], [], []) (fun r h' => r = some (.int ((wq 9).getD i 0)) ∧ h' = []) := by
  refine P0.b GJ1_charAt_3b067 3 (ob := []) (cf' := (3, [some (.ref (sB + 109)), some (.int (nI i))], [.int 5, .int (nI i)], [])) rfl trivial ?_
  refine P0.cr (io := []) (as := [.int (nI i), .int 5]) (rest := []) (hc := []) (hc1 := []) (r1 := none) (st' := []) (h' := []) (d0 := 1) GJ0_checkIndex_df160 kJ1_charAt_3b067_3 rfl rfl (Nat.le_of_ble_eq_true rfl) (Nat.le_of_ble_eq_true rfl) rfl trivial (chk_n hi (by decide)) (Nat.le_of_ble_eq_true rfl) rfl (Nat.le_of_ble_eq_true rfl) (Nat.le_of_ble_eq_true rfl) rfl rfl ?_
  refine P0.b GJ1_charAt_3b067 6 (ob := [vp_in (nI i) 5]) (cf' := (14, [some (.ref (sB + 109)), some (.int (nI i))], [.int (((((strB.getD 9 []).getD (nI i).toNatClampNeg 0) &&& 255).toUInt32 % 65536).toInt32)], [])) rfl ⟨nI_vp (by omega) (by decide), trivial⟩ ?_
  rw [show (nI i).toNatClampNeg = i from nI_clamp (by omega)]
  exact P0.ri (by decide +kernel) rfl (by rw [ch_9 i hi]; exact chn_9 i hi) ⟨congrArg (fun x => some (Value.int x)) (ch_9 i hi), rfl⟩
set_option maxHeartbeats 1000000 in
theorem chAt_9 {i : Nat} (hi : i < 5) : P0 3 0 0 mJ0_charAt_5068e (0, ent 2 [.ref (sB + 9), .int (nI i)], [], []) (fun r h' => r = some (.int ((wq 9).getD i 0)) ∧ h' = []) := by
  refine P0.b GJ0_charAt_5068e 1 (ob := []) (cf' := (1, [some (.ref (sB + 9)), some (.int (nI i))], [.ref (sB + 9)], [])) rfl trivial ?_
  refine P0.cr (io := []) (as := [.ref (sB + 9)]) (rest := []) (hc := []) (hc1 := []) (r1 := some (.int 1)) (st' := [.int 1]) (h' := []) (d0 := 0) GJ0_isLatin1_aae02 kJ0_charAt_5068e_1 rfl ⟨_, _, rfl, rfl, .inr ⟨rfl, Nat.le_of_ble_eq_true rfl, Nat.le_of_ble_eq_true rfl⟩⟩ (Nat.le_of_ble_eq_true rfl) (Nat.le_of_ble_eq_true rfl) rfl trivial (latin_9) (Nat.le_of_ble_eq_true rfl) rfl (Nat.le_of_ble_eq_true rfl) (Nat.le_of_ble_eq_true rfl) rfl rfl ?_
  refine P0.b GJ0_charAt_5068e 1 (ob := []) (cf' := (if (1 : Int32) = 0 then 16 else 7, [some (.ref (sB + 9)), some (.int (nI i))], [], [])) rfl trivial ?_
  rw [if_neg (show ¬ ((1 : Int32) = 0) from by decide)]
  refine P0.b GJ0_charAt_5068e 3 (ob := []) (cf' := (12, [some (.ref (sB + 9)), some (.int (nI i))], [.int (nI i), .ref (sB + 109)], [])) rfl trivial ?_
  refine P0.cr (io := []) (as := [.ref (sB + 109), .int (nI i)]) (rest := []) (hc := []) (hc1 := []) (r1 := some (.int ((wq 9).getD i 0))) (st' := [.int ((wq 9).getD i 0)]) (h' := []) (d0 := 2) GJ1_charAt_3b067 kJ0_charAt_5068e_12 rfl rfl (Nat.le_of_ble_eq_true rfl) (Nat.le_of_ble_eq_true rfl) rfl trivial (latAt_9 hi) (Nat.le_of_ble_eq_true rfl) rfl (Nat.le_of_ble_eq_true rfl) (Nat.le_of_ble_eq_true rfl) rfl rfl ?_
  exact P0.ri (by decide +kernel) rfl (by exact chn_9 i hi) ⟨rfl, rfl⟩
set_option maxHeartbeats 1000000 in
theorem stands_9 {tp : Nat → Int32} {fr c : Nat} (hfc : fr + c ≤ 160) : P0 4 0 0 mX4_stands (0, ent 5 [.ref (sB + 9), .ref 0, .int (nI fr), .int (nI (fr + c))], [], [pI 160 tp]) (fun r h' => r = some (.int (if isWd (wq 9) tp fr (fr + c) = true then 1 else 0)) ∧ h' = [pI 160 tp]) := by
  refine P0.b GX4_stands 1 (ob := []) (cf' := (1, [some (.ref (sB + 9)), some (.ref 0), some (.int (nI fr)), some (.int (nI (fr + c))), none], [.ref (sB + 9)], [pI 160 tp])) rfl trivial ?_
  refine P0.cr (io := []) (as := [.ref (sB + 9)]) (rest := []) (hc := []) (hc1 := []) (r1 := some (.int 5)) (st' := [.int 5]) (h' := [pI 160 tp]) (d0 := 1) GJ0_len kX4_stands_1s rfl ⟨_, _, rfl, rfl, .inr ⟨rfl, Nat.le_of_ble_eq_true rfl, Nat.le_of_ble_eq_true rfl⟩⟩ (Nat.le_of_ble_eq_true rfl) (Nat.le_of_ble_eq_true rfl) rfl trivial (len_9) (Nat.le_of_ble_eq_true rfl) rfl (Nat.le_of_ble_eq_true rfl) (Nat.le_of_ble_eq_true rfl) rfl rfl ?_
  refine P0.b GX4_stands 4 (ob := []) (cf' := (if 5 = (nI (fr + c)) - (nI fr) then 12 else 10, [some (.ref (sB + 9)), some (.ref 0), some (.int (nI fr)), some (.int (nI (fr + c))), none], [], [pI 160 tp])) rfl trivial ?_
  rw [show (nI (fr + c)) - (nI fr) = nI c from nI_subA fr c]
  refine P0.if (fun h1 => ?_) (fun h1 => ?_)
  · refine P0.b GX4_stands 2 (ob := []) (cf' := (15, [some (.ref (sB + 9)), some (.ref 0), some (.int (nI fr)), some (.int (nI (fr + c))), some (.int 0)], [], [pI 160 tp])) rfl trivial ?_
    have hc5 : c = 5 := wd_c (by omega) (by decide) h1
    refine P0.loopI (N := 5) (fun i (_ : Unit) => ∀ j, j < i → (wq 9).getD j 0 = tp (fr + j)) (fun x168 v168 => (15, [some (.ref (sB + 9)), some (.ref 0), some (.int (nI fr)), some (.int (nI (fr + c))), some (.int x168)], [], [pI 160 tp])) (fun i168 v168 hi168 hI168 hk168 => ?_) (fun v168 hI168 => ?_) 0 () nI_0.symm (fun j hj => absurd hj (Nat.not_lt_zero j))
    · show P0 _ _ _ _ (15, [some (.ref (sB + 9)), some (.ref 0), some (.int (nI fr)), some (.int (nI (fr + c))), some (.int (nI i168))], [], [pI 160 tp]) _
      refine P0.b GX4_stands 2 (ob := []) (cf' := (18, [some (.ref (sB + 9)), some (.ref 0), some (.int (nI fr)), some (.int (nI (fr + c))), some (.int (nI i168))], [.ref (sB + 9), .int (nI i168)], [pI 160 tp])) rfl trivial ?_
      refine P0.cr (io := []) (as := [.ref (sB + 9)]) (rest := [.int (nI i168)]) (hc := []) (hc1 := []) (r1 := some (.int 5)) (st' := [.int 5, .int (nI i168)]) (h' := [pI 160 tp]) (d0 := 1) GJ0_len kX4_stands_18s rfl ⟨_, _, rfl, rfl, .inr ⟨rfl, Nat.le_of_ble_eq_true rfl, Nat.le_of_ble_eq_true rfl⟩⟩ (Nat.le_of_ble_eq_true rfl) (Nat.le_of_ble_eq_true rfl) rfl trivial (len_9) (Nat.le_of_ble_eq_true rfl) rfl (Nat.le_of_ble_eq_true rfl) (Nat.le_of_ble_eq_true rfl) rfl rfl ?_
      refine P0.b GX4_stands 1 (ob := []) (cf' := (if 5 ≤ nI i168 then 49 else 24, [some (.ref (sB + 9)), some (.ref 0), some (.int (nI fr)), some (.int (nI (fr + c))), some (.int (nI i168))], [], [pI 160 tp])) rfl trivial ?_
      rw [if_neg (show ¬ (5 ≤ nI i168) from nI_ge hi168 (by decide))]
      refine P0.b GX4_stands 2 (ob := []) (cf' := (27, [some (.ref (sB + 9)), some (.ref 0), some (.int (nI fr)), some (.int (nI (fr + c))), some (.int (nI i168))], [.int (nI i168), .ref (sB + 9)], [pI 160 tp])) rfl trivial ?_
      refine P0.cr (io := []) (as := [.ref (sB + 9), .int (nI i168)]) (rest := []) (hc := []) (hc1 := []) (r1 := some (.int ((wq 9).getD i168 0))) (st' := [.int ((wq 9).getD i168 0)]) (h' := [pI 160 tp]) (d0 := 3) GJ0_charAt_5068e kX4_stands_27 rfl ⟨_, _, rfl, rfl, .inr ⟨rfl, Nat.le_of_ble_eq_true rfl, Nat.le_of_ble_eq_true rfl⟩⟩ (Nat.le_of_ble_eq_true rfl) (Nat.le_of_ble_eq_true rfl) rfl trivial (chAt_9 hi168) (Nat.le_of_ble_eq_true rfl) rfl (Nat.le_of_ble_eq_true rfl) (Nat.le_of_ble_eq_true rfl) rfl rfl ?_
      refine P0.b GX4_stands 4 (ob := []) (cf' := (35, [some (.ref (sB + 9)), some (.ref 0), some (.int (nI fr)), some (.int (nI (fr + c))), some (.int (nI i168))], [.int ((nI fr) + (nI i168)), .ref 0, .int ((wq 9).getD i168 0)], [pI 160 tp])) rfl trivial ?_
      rw [show (nI fr) + (nI i168) = nI (fr + i168) from nI_add _ _]
      refine P0.cr (io := [0]) (as := [.ref 0, .int (nI (fr + i168))]) (rest := [.int ((wq 9).getD i168 0)]) (hc := [pI 160 tp]) (hc1 := [pI 160 tp]) (r1 := some (.int (tp (fr + i168)))) (st' := [.int (tp (fr + i168)), .int ((wq 9).getD i168 0)]) (h' := [pI 160 tp]) (d0 := 0) GX5_at kX4_stands_35 rfl rfl (Nat.le_of_ble_eq_true rfl) (Nat.le_of_ble_eq_true rfl) rfl ⟨rfl, trivial⟩ (at_in (n := 160) (by decide) tp (k := (fr + i168)) (by omega)) (Nat.zero_le _) rfl (Nat.le_of_ble_eq_true rfl) (Nat.le_of_ble_eq_true rfl) rfl rfl ?_
      refine P0.b GX4_stands 1 (ob := []) (cf' := (if (wq 9).getD i168 0 = tp (fr + i168) then 43 else 41, [some (.ref (sB + 9)), some (.ref 0), some (.int (nI fr)), some (.int (nI (fr + c))), some (.int (nI i168))], [], [pI 160 tp])) rfl trivial ?_
      refine P0.if (fun h2 => ?_) (fun h2 => ?_)
      · refine P0.b GX4_stands 2 (ob := []) (cf' := (15, [some (.ref (sB + 9)), some (.ref 0), some (.int (nI fr)), some (.int (nI (fr + c))), some (.int ((nI i168) + 1))], [], [pI 160 tp])) rfl trivial ?_
        rw [show (nI i168) + 1 = nI (i168 + 1) from nI_add _ _]
        exact hk168 _ () rfl (all_s hI168 h2)
      · refine P0.b GX4_stands 1 (ob := []) (cf' := (42, [some (.ref (sB + 9)), some (.ref 0), some (.int (nI fr)), some (.int (nI (fr + c))), some (.int (nI i168))], [.int 0], [pI 160 tp])) rfl trivial ?_
        exact P0.ri (by decide +kernel) rfl (by rfl) ⟨congrArg (fun x => some (Value.int x)) (wd_no2 wqL_9 hi168 h2), rfl⟩
    · show P0 _ _ _ _ (15, [some (.ref (sB + 9)), some (.ref 0), some (.int (nI fr)), some (.int (nI (fr + c))), some (.int 5)], [], [pI 160 tp]) _
      refine P0.b GX4_stands 2 (ob := []) (cf' := (18, [some (.ref (sB + 9)), some (.ref 0), some (.int (nI fr)), some (.int (nI (fr + c))), some (.int 5)], [.ref (sB + 9), .int 5], [pI 160 tp])) rfl trivial ?_
      refine P0.cr (io := []) (as := [.ref (sB + 9)]) (rest := [.int 5]) (hc := []) (hc1 := []) (r1 := some (.int 5)) (st' := [.int 5, .int 5]) (h' := [pI 160 tp]) (d0 := 1) GJ0_len kX4_stands_18s rfl ⟨_, _, rfl, rfl, .inr ⟨rfl, Nat.le_of_ble_eq_true rfl, Nat.le_of_ble_eq_true rfl⟩⟩ (Nat.le_of_ble_eq_true rfl) (Nat.le_of_ble_eq_true rfl) rfl trivial (len_9) (Nat.le_of_ble_eq_true rfl) rfl (Nat.le_of_ble_eq_true rfl) (Nat.le_of_ble_eq_true rfl) rfl rfl ?_
      refine P0.b GX4_stands 1 (ob := []) (cf' := (if (5 : Int32) ≤ 5 then 49 else 24, [some (.ref (sB + 9)), some (.ref 0), some (.int (nI fr)), some (.int (nI (fr + c))), some (.int 5)], [], [pI 160 tp])) rfl trivial ?_
      rw [if_pos (show ((5 : Int32) ≤ 5) from by decide)]
      refine P0.b GX4_stands 1 (ob := []) (cf' := (50, [some (.ref (sB + 9)), some (.ref 0), some (.int (nI fr)), some (.int (nI (fr + c))), some (.int 5)], [.int 1], [pI 160 tp])) rfl trivial ?_
      exact P0.ri (by decide +kernel) rfl (by rfl) ⟨congrArg (fun x => some (Value.int x)) (wd_yes wqL_9 hc5 hI168), rfl⟩
  · refine P0.b GX4_stands 1 (ob := []) (cf' := (11, [some (.ref (sB + 9)), some (.ref 0), some (.int (nI fr)), some (.int (nI (fr + c))), none], [.int 0], [pI 160 tp])) rfl trivial ?_
    exact P0.ri (by decide +kernel) rfl (by rfl) ⟨congrArg (fun x => some (Value.int x)) (wd_no1 wqL_9 h1), rfl⟩
set_option maxHeartbeats 1000000 in
theorem coder_10 : P0 0 0 0 mJ0_coder_7d493 (0, ent 1 [.ref (sB + 10)], [], []) (fun r h' => r = some (.int 0) ∧ h' = []) := by
  refine P0.b GJ0_coder_7d493 2 (ob := []) (cf' := (if (1 : Int32) = 0 then 13 else 6, [some (.ref (sB + 10))], [], [])) rfl trivial ?_
  rw [if_neg (show ¬ ((1 : Int32) = 0) from by decide)]
  refine P0.b GJ0_coder_7d493 3 (ob := []) (cf' := (14, [some (.ref (sB + 10))], [.int 0], [])) rfl trivial ?_
  exact P0.ri (by decide +kernel) rfl (by rfl) ⟨rfl, rfl⟩
set_option maxHeartbeats 1000000 in
theorem latin_10 : P0 0 0 0 mJ0_isLatin1_aae02 (0, ent 1 [.ref (sB + 10)], [], []) (fun r h' => r = some (.int 1) ∧ h' = []) := by
  refine P0.b GJ0_isLatin1_aae02 2 (ob := []) (cf' := (if (1 : Int32) = 0 then 17 else 6, [some (.ref (sB + 10))], [], [])) rfl trivial ?_
  rw [if_neg (show ¬ ((1 : Int32) = 0) from by decide)]
  refine P0.b GJ0_isLatin1_aae02 3 (ob := []) (cf' := (if (0 : Int32) = 0 then 13 else 17, [some (.ref (sB + 10))], [], [])) rfl trivial ?_
  rw [if_pos (show ((0 : Int32) = 0) from by decide)]
  refine P0.b GJ0_isLatin1_aae02 2 (ob := []) (cf' := (18, [some (.ref (sB + 10))], [.int 1], [])) rfl trivial ?_
  exact P0.ri (by decide +kernel) rfl (by rfl) ⟨rfl, rfl⟩
set_option maxHeartbeats 1000000 in
theorem len_10 : P0 1 0 0 mJ0_len (0, ent 1 [.ref (sB + 10)], [], []) (fun r h' => r = some (.int 2) ∧ h' = []) := by
  refine P0.b GJ0_len 4 (ob := []) (cf' := (6, [some (.ref (sB + 10))], [.ref (sB + 10), .int 2], [])) rfl trivial ?_
  refine P0.cr (io := []) (as := [.ref (sB + 10)]) (rest := [.int 2]) (hc := []) (hc1 := []) (r1 := some (.int 0)) (st' := [.int 0, .int 2]) (h' := []) (d0 := 0) GJ0_coder_7d493 kJ0_len_6 rfl ⟨_, _, rfl, rfl, .inr ⟨rfl, Nat.le_of_ble_eq_true rfl, Nat.le_of_ble_eq_true rfl⟩⟩ (Nat.le_of_ble_eq_true rfl) (Nat.le_of_ble_eq_true rfl) rfl trivial (coder_10) (Nat.le_of_ble_eq_true rfl) rfl (Nat.le_of_ble_eq_true rfl) (Nat.le_of_ble_eq_true rfl) rfl rfl ?_
  refine P0.b GJ0_len 1 (ob := []) (cf' := (10, [some (.ref (sB + 10))], [.int ((2 : Int32) >>> (0 &&& 31))], [])) rfl trivial ?_
  exact P0.ri (by decide +kernel) rfl rfl ⟨by decide +kernel, rfl⟩
theorem ch_10 : ∀ i, i < 2 → (((strB.getD 10 []).getD i 0 &&& 255).toUInt32 % 65536).toInt32 = (wq 10).getD i 0 := by decide +kernel
theorem wqL_10 : (wq 10).length = 2 := by decide
theorem chn_10 : ∀ i, i < 2 → narrow .char (.int ((wq 10).getD i 0)) = .int ((wq 10).getD i 0) := by decide +kernel
set_option maxHeartbeats 1000000 in
theorem latAt_10 {i : Nat} (hi : i < 2) : P0 2 0 0 mJ1_charAt_3b067 (0, ent 2 [.ref (sB + 110), .int (nI i)], [], []) (fun r h' => r = some (.int ((wq 10).getD i 0)) ∧ h' = []) := by
  refine P0.b GJ1_charAt_3b067 3 (ob := []) (cf' := (3, [some (.ref (sB + 110)), some (.int (nI i))], [.int 2, .int (nI i)], [])) rfl trivial ?_
  refine P0.cr (io := []) (as := [.int (nI i), .int 2]) (rest := []) (hc := []) (hc1 := []) (r1 := none) (st' := []) (h' := []) (d0 := 1) GJ0_checkIndex_df160 kJ1_charAt_3b067_3 rfl rfl (Nat.le_of_ble_eq_true rfl) (Nat.le_of_ble_eq_true rfl) rfl trivial (chk_n hi (by decide)) (Nat.le_of_ble_eq_true rfl) rfl (Nat.le_of_ble_eq_true rfl) (Nat.le_of_ble_eq_true rfl) rfl rfl ?_
  refine P0.b GJ1_charAt_3b067 6 (ob := [vp_in (nI i) 2]) (cf' := (14, [some (.ref (sB + 110)), some (.int (nI i))], [.int (((((strB.getD 10 []).getD (nI i).toNatClampNeg 0) &&& 255).toUInt32 % 65536).toInt32)], [])) rfl ⟨nI_vp (by omega) (by decide), trivial⟩ ?_
  rw [show (nI i).toNatClampNeg = i from nI_clamp (by omega)]
  exact P0.ri (by decide +kernel) rfl (by rw [ch_10 i hi]; exact chn_10 i hi) ⟨congrArg (fun x => some (Value.int x)) (ch_10 i hi), rfl⟩
set_option maxHeartbeats 1000000 in
theorem chAt_10 {i : Nat} (hi : i < 2) : P0 3 0 0 mJ0_charAt_5068e (0, ent 2 [.ref (sB + 10), .int (nI i)], [], []) (fun r h' => r = some (.int ((wq 10).getD i 0)) ∧ h' = []) := by
  refine P0.b GJ0_charAt_5068e 1 (ob := []) (cf' := (1, [some (.ref (sB + 10)), some (.int (nI i))], [.ref (sB + 10)], [])) rfl trivial ?_
  refine P0.cr (io := []) (as := [.ref (sB + 10)]) (rest := []) (hc := []) (hc1 := []) (r1 := some (.int 1)) (st' := [.int 1]) (h' := []) (d0 := 0) GJ0_isLatin1_aae02 kJ0_charAt_5068e_1 rfl ⟨_, _, rfl, rfl, .inr ⟨rfl, Nat.le_of_ble_eq_true rfl, Nat.le_of_ble_eq_true rfl⟩⟩ (Nat.le_of_ble_eq_true rfl) (Nat.le_of_ble_eq_true rfl) rfl trivial (latin_10) (Nat.le_of_ble_eq_true rfl) rfl (Nat.le_of_ble_eq_true rfl) (Nat.le_of_ble_eq_true rfl) rfl rfl ?_
  refine P0.b GJ0_charAt_5068e 1 (ob := []) (cf' := (if (1 : Int32) = 0 then 16 else 7, [some (.ref (sB + 10)), some (.int (nI i))], [], [])) rfl trivial ?_
  rw [if_neg (show ¬ ((1 : Int32) = 0) from by decide)]
  refine P0.b GJ0_charAt_5068e 3 (ob := []) (cf' := (12, [some (.ref (sB + 10)), some (.int (nI i))], [.int (nI i), .ref (sB + 110)], [])) rfl trivial ?_
  refine P0.cr (io := []) (as := [.ref (sB + 110), .int (nI i)]) (rest := []) (hc := []) (hc1 := []) (r1 := some (.int ((wq 10).getD i 0))) (st' := [.int ((wq 10).getD i 0)]) (h' := []) (d0 := 2) GJ1_charAt_3b067 kJ0_charAt_5068e_12 rfl rfl (Nat.le_of_ble_eq_true rfl) (Nat.le_of_ble_eq_true rfl) rfl trivial (latAt_10 hi) (Nat.le_of_ble_eq_true rfl) rfl (Nat.le_of_ble_eq_true rfl) (Nat.le_of_ble_eq_true rfl) rfl rfl ?_
  exact P0.ri (by decide +kernel) rfl (by exact chn_10 i hi) ⟨rfl, rfl⟩
set_option maxHeartbeats 1000000 in
theorem stands_10 {tp : Nat → Int32} {fr c : Nat} (hfc : fr + c ≤ 160) : P0 4 0 0 mX4_stands (0, ent 5 [.ref (sB + 10), .ref 0, .int (nI fr), .int (nI (fr + c))], [], [pI 160 tp]) (fun r h' => r = some (.int (if isWd (wq 10) tp fr (fr + c) = true then 1 else 0)) ∧ h' = [pI 160 tp]) := by
  refine P0.b GX4_stands 1 (ob := []) (cf' := (1, [some (.ref (sB + 10)), some (.ref 0), some (.int (nI fr)), some (.int (nI (fr + c))), none], [.ref (sB + 10)], [pI 160 tp])) rfl trivial ?_
  refine P0.cr (io := []) (as := [.ref (sB + 10)]) (rest := []) (hc := []) (hc1 := []) (r1 := some (.int 2)) (st' := [.int 2]) (h' := [pI 160 tp]) (d0 := 1) GJ0_len kX4_stands_1s rfl ⟨_, _, rfl, rfl, .inr ⟨rfl, Nat.le_of_ble_eq_true rfl, Nat.le_of_ble_eq_true rfl⟩⟩ (Nat.le_of_ble_eq_true rfl) (Nat.le_of_ble_eq_true rfl) rfl trivial (len_10) (Nat.le_of_ble_eq_true rfl) rfl (Nat.le_of_ble_eq_true rfl) (Nat.le_of_ble_eq_true rfl) rfl rfl ?_
  refine P0.b GX4_stands 4 (ob := []) (cf' := (if 2 = (nI (fr + c)) - (nI fr) then 12 else 10, [some (.ref (sB + 10)), some (.ref 0), some (.int (nI fr)), some (.int (nI (fr + c))), none], [], [pI 160 tp])) rfl trivial ?_
  rw [show (nI (fr + c)) - (nI fr) = nI c from nI_subA fr c]
  refine P0.if (fun h1 => ?_) (fun h1 => ?_)
  · refine P0.b GX4_stands 2 (ob := []) (cf' := (15, [some (.ref (sB + 10)), some (.ref 0), some (.int (nI fr)), some (.int (nI (fr + c))), some (.int 0)], [], [pI 160 tp])) rfl trivial ?_
    have hc5 : c = 2 := wd_c (by omega) (by decide) h1
    refine P0.loopI (N := 2) (fun i (_ : Unit) => ∀ j, j < i → (wq 10).getD j 0 = tp (fr + j)) (fun x169 v169 => (15, [some (.ref (sB + 10)), some (.ref 0), some (.int (nI fr)), some (.int (nI (fr + c))), some (.int x169)], [], [pI 160 tp])) (fun i169 v169 hi169 hI169 hk169 => ?_) (fun v169 hI169 => ?_) 0 () nI_0.symm (fun j hj => absurd hj (Nat.not_lt_zero j))
    · show P0 _ _ _ _ (15, [some (.ref (sB + 10)), some (.ref 0), some (.int (nI fr)), some (.int (nI (fr + c))), some (.int (nI i169))], [], [pI 160 tp]) _
      refine P0.b GX4_stands 2 (ob := []) (cf' := (18, [some (.ref (sB + 10)), some (.ref 0), some (.int (nI fr)), some (.int (nI (fr + c))), some (.int (nI i169))], [.ref (sB + 10), .int (nI i169)], [pI 160 tp])) rfl trivial ?_
      refine P0.cr (io := []) (as := [.ref (sB + 10)]) (rest := [.int (nI i169)]) (hc := []) (hc1 := []) (r1 := some (.int 2)) (st' := [.int 2, .int (nI i169)]) (h' := [pI 160 tp]) (d0 := 1) GJ0_len kX4_stands_18s rfl ⟨_, _, rfl, rfl, .inr ⟨rfl, Nat.le_of_ble_eq_true rfl, Nat.le_of_ble_eq_true rfl⟩⟩ (Nat.le_of_ble_eq_true rfl) (Nat.le_of_ble_eq_true rfl) rfl trivial (len_10) (Nat.le_of_ble_eq_true rfl) rfl (Nat.le_of_ble_eq_true rfl) (Nat.le_of_ble_eq_true rfl) rfl rfl ?_
      refine P0.b GX4_stands 1 (ob := []) (cf' := (if 2 ≤ nI i169 then 49 else 24, [some (.ref (sB + 10)), some (.ref 0), some (.int (nI fr)), some (.int (nI (fr + c))), some (.int (nI i169))], [], [pI 160 tp])) rfl trivial ?_
      rw [if_neg (show ¬ (2 ≤ nI i169) from nI_ge hi169 (by decide))]
      refine P0.b GX4_stands 2 (ob := []) (cf' := (27, [some (.ref (sB + 10)), some (.ref 0), some (.int (nI fr)), some (.int (nI (fr + c))), some (.int (nI i169))], [.int (nI i169), .ref (sB + 10)], [pI 160 tp])) rfl trivial ?_
      refine P0.cr (io := []) (as := [.ref (sB + 10), .int (nI i169)]) (rest := []) (hc := []) (hc1 := []) (r1 := some (.int ((wq 10).getD i169 0))) (st' := [.int ((wq 10).getD i169 0)]) (h' := [pI 160 tp]) (d0 := 3) GJ0_charAt_5068e kX4_stands_27 rfl ⟨_, _, rfl, rfl, .inr ⟨rfl, Nat.le_of_ble_eq_true rfl, Nat.le_of_ble_eq_true rfl⟩⟩ (Nat.le_of_ble_eq_true rfl) (Nat.le_of_ble_eq_true rfl) rfl trivial (chAt_10 hi169) (Nat.le_of_ble_eq_true rfl) rfl (Nat.le_of_ble_eq_true rfl) (Nat.le_of_ble_eq_true rfl) rfl rfl ?_
      refine P0.b GX4_stands 4 (ob := []) (cf' := (35, [some (.ref (sB + 10)), some (.ref 0), some (.int (nI fr)), some (.int (nI (fr + c))), some (.int (nI i169))], [.int ((nI fr) + (nI i169)), .ref 0, .int ((wq 10).getD i169 0)], [pI 160 tp])) rfl trivial ?_
      rw [show (nI fr) + (nI i169) = nI (fr + i169) from nI_add _ _]
      refine P0.cr (io := [0]) (as := [.ref 0, .int (nI (fr + i169))]) (rest := [.int ((wq 10).getD i169 0)]) (hc := [pI 160 tp]) (hc1 := [pI 160 tp]) (r1 := some (.int (tp (fr + i169)))) (st' := [.int (tp (fr + i169)), .int ((wq 10).getD i169 0)]) (h' := [pI 160 tp]) (d0 := 0) GX5_at kX4_stands_35 rfl rfl (Nat.le_of_ble_eq_true rfl) (Nat.le_of_ble_eq_true rfl) rfl ⟨rfl, trivial⟩ (at_in (n := 160) (by decide) tp (k := (fr + i169)) (by omega)) (Nat.zero_le _) rfl (Nat.le_of_ble_eq_true rfl) (Nat.le_of_ble_eq_true rfl) rfl rfl ?_
      refine P0.b GX4_stands 1 (ob := []) (cf' := (if (wq 10).getD i169 0 = tp (fr + i169) then 43 else 41, [some (.ref (sB + 10)), some (.ref 0), some (.int (nI fr)), some (.int (nI (fr + c))), some (.int (nI i169))], [], [pI 160 tp])) rfl trivial ?_
      refine P0.if (fun h2 => ?_) (fun h2 => ?_)
      · refine P0.b GX4_stands 2 (ob := []) (cf' := (15, [some (.ref (sB + 10)), some (.ref 0), some (.int (nI fr)), some (.int (nI (fr + c))), some (.int ((nI i169) + 1))], [], [pI 160 tp])) rfl trivial ?_
        rw [show (nI i169) + 1 = nI (i169 + 1) from nI_add _ _]
        exact hk169 _ () rfl (all_s hI169 h2)
      · refine P0.b GX4_stands 1 (ob := []) (cf' := (42, [some (.ref (sB + 10)), some (.ref 0), some (.int (nI fr)), some (.int (nI (fr + c))), some (.int (nI i169))], [.int 0], [pI 160 tp])) rfl trivial ?_
        exact P0.ri (by decide +kernel) rfl (by rfl) ⟨congrArg (fun x => some (Value.int x)) (wd_no2 wqL_10 hi169 h2), rfl⟩
    · show P0 _ _ _ _ (15, [some (.ref (sB + 10)), some (.ref 0), some (.int (nI fr)), some (.int (nI (fr + c))), some (.int 2)], [], [pI 160 tp]) _
      refine P0.b GX4_stands 2 (ob := []) (cf' := (18, [some (.ref (sB + 10)), some (.ref 0), some (.int (nI fr)), some (.int (nI (fr + c))), some (.int 2)], [.ref (sB + 10), .int 2], [pI 160 tp])) rfl trivial ?_
      refine P0.cr (io := []) (as := [.ref (sB + 10)]) (rest := [.int 2]) (hc := []) (hc1 := []) (r1 := some (.int 2)) (st' := [.int 2, .int 2]) (h' := [pI 160 tp]) (d0 := 1) GJ0_len kX4_stands_18s rfl ⟨_, _, rfl, rfl, .inr ⟨rfl, Nat.le_of_ble_eq_true rfl, Nat.le_of_ble_eq_true rfl⟩⟩ (Nat.le_of_ble_eq_true rfl) (Nat.le_of_ble_eq_true rfl) rfl trivial (len_10) (Nat.le_of_ble_eq_true rfl) rfl (Nat.le_of_ble_eq_true rfl) (Nat.le_of_ble_eq_true rfl) rfl rfl ?_
      refine P0.b GX4_stands 1 (ob := []) (cf' := (if (2 : Int32) ≤ 2 then 49 else 24, [some (.ref (sB + 10)), some (.ref 0), some (.int (nI fr)), some (.int (nI (fr + c))), some (.int 2)], [], [pI 160 tp])) rfl trivial ?_
      rw [if_pos (show ((2 : Int32) ≤ 2) from by decide)]
      refine P0.b GX4_stands 1 (ob := []) (cf' := (50, [some (.ref (sB + 10)), some (.ref 0), some (.int (nI fr)), some (.int (nI (fr + c))), some (.int 2)], [.int 1], [pI 160 tp])) rfl trivial ?_
      exact P0.ri (by decide +kernel) rfl (by rfl) ⟨congrArg (fun x => some (Value.int x)) (wd_yes wqL_10 hc5 hI169), rfl⟩
  · refine P0.b GX4_stands 1 (ob := []) (cf' := (11, [some (.ref (sB + 10)), some (.ref 0), some (.int (nI fr)), some (.int (nI (fr + c))), none], [.int 0], [pI 160 tp])) rfl trivial ?_
    exact P0.ri (by decide +kernel) rfl (by rfl) ⟨congrArg (fun x => some (Value.int x)) (wd_no1 wqL_10 h1), rfl⟩
set_option maxHeartbeats 1000000 in
theorem coder_11 : P0 0 0 0 mJ0_coder_7d493 (0, ent 1 [.ref (sB + 11)], [], []) (fun r h' => r = some (.int 0) ∧ h' = []) := by
  refine P0.b GJ0_coder_7d493 2 (ob := []) (cf' := (if (1 : Int32) = 0 then 13 else 6, [some (.ref (sB + 11))], [], [])) rfl trivial ?_
  rw [if_neg (show ¬ ((1 : Int32) = 0) from by decide)]
  refine P0.b GJ0_coder_7d493 3 (ob := []) (cf' := (14, [some (.ref (sB + 11))], [.int 0], [])) rfl trivial ?_
  exact P0.ri (by decide +kernel) rfl (by rfl) ⟨rfl, rfl⟩
set_option maxHeartbeats 1000000 in
theorem latin_11 : P0 0 0 0 mJ0_isLatin1_aae02 (0, ent 1 [.ref (sB + 11)], [], []) (fun r h' => r = some (.int 1) ∧ h' = []) := by
  refine P0.b GJ0_isLatin1_aae02 2 (ob := []) (cf' := (if (1 : Int32) = 0 then 17 else 6, [some (.ref (sB + 11))], [], [])) rfl trivial ?_
  rw [if_neg (show ¬ ((1 : Int32) = 0) from by decide)]
  refine P0.b GJ0_isLatin1_aae02 3 (ob := []) (cf' := (if (0 : Int32) = 0 then 13 else 17, [some (.ref (sB + 11))], [], [])) rfl trivial ?_
  rw [if_pos (show ((0 : Int32) = 0) from by decide)]
  refine P0.b GJ0_isLatin1_aae02 2 (ob := []) (cf' := (18, [some (.ref (sB + 11))], [.int 1], [])) rfl trivial ?_
  exact P0.ri (by decide +kernel) rfl (by rfl) ⟨rfl, rfl⟩
set_option maxHeartbeats 1000000 in
theorem len_11 : P0 1 0 0 mJ0_len (0, ent 1 [.ref (sB + 11)], [], []) (fun r h' => r = some (.int 3) ∧ h' = []) := by
  refine P0.b GJ0_len 4 (ob := []) (cf' := (6, [some (.ref (sB + 11))], [.ref (sB + 11), .int 3], [])) rfl trivial ?_
  refine P0.cr (io := []) (as := [.ref (sB + 11)]) (rest := [.int 3]) (hc := []) (hc1 := []) (r1 := some (.int 0)) (st' := [.int 0, .int 3]) (h' := []) (d0 := 0) GJ0_coder_7d493 kJ0_len_6 rfl ⟨_, _, rfl, rfl, .inr ⟨rfl, Nat.le_of_ble_eq_true rfl, Nat.le_of_ble_eq_true rfl⟩⟩ (Nat.le_of_ble_eq_true rfl) (Nat.le_of_ble_eq_true rfl) rfl trivial (coder_11) (Nat.le_of_ble_eq_true rfl) rfl (Nat.le_of_ble_eq_true rfl) (Nat.le_of_ble_eq_true rfl) rfl rfl ?_
  refine P0.b GJ0_len 1 (ob := []) (cf' := (10, [some (.ref (sB + 11))], [.int ((3 : Int32) >>> (0 &&& 31))], [])) rfl trivial ?_
  exact P0.ri (by decide +kernel) rfl rfl ⟨by decide +kernel, rfl⟩
theorem ch_11 : ∀ i, i < 3 → (((strB.getD 11 []).getD i 0 &&& 255).toUInt32 % 65536).toInt32 = (wq 11).getD i 0 := by decide +kernel
theorem wqL_11 : (wq 11).length = 3 := by decide
theorem chn_11 : ∀ i, i < 3 → narrow .char (.int ((wq 11).getD i 0)) = .int ((wq 11).getD i 0) := by decide +kernel
set_option maxHeartbeats 1000000 in
theorem latAt_11 {i : Nat} (hi : i < 3) : P0 2 0 0 mJ1_charAt_3b067 (0, ent 2 [.ref (sB + 111), .int (nI i)], [], []) (fun r h' => r = some (.int ((wq 11).getD i 0)) ∧ h' = []) := by
  refine P0.b GJ1_charAt_3b067 3 (ob := []) (cf' := (3, [some (.ref (sB + 111)), some (.int (nI i))], [.int 3, .int (nI i)], [])) rfl trivial ?_
  refine P0.cr (io := []) (as := [.int (nI i), .int 3]) (rest := []) (hc := []) (hc1 := []) (r1 := none) (st' := []) (h' := []) (d0 := 1) GJ0_checkIndex_df160 kJ1_charAt_3b067_3 rfl rfl (Nat.le_of_ble_eq_true rfl) (Nat.le_of_ble_eq_true rfl) rfl trivial (chk_n hi (by decide)) (Nat.le_of_ble_eq_true rfl) rfl (Nat.le_of_ble_eq_true rfl) (Nat.le_of_ble_eq_true rfl) rfl rfl ?_
  refine P0.b GJ1_charAt_3b067 6 (ob := [vp_in (nI i) 3]) (cf' := (14, [some (.ref (sB + 111)), some (.int (nI i))], [.int (((((strB.getD 11 []).getD (nI i).toNatClampNeg 0) &&& 255).toUInt32 % 65536).toInt32)], [])) rfl ⟨nI_vp (by omega) (by decide), trivial⟩ ?_
  rw [show (nI i).toNatClampNeg = i from nI_clamp (by omega)]
  exact P0.ri (by decide +kernel) rfl (by rw [ch_11 i hi]; exact chn_11 i hi) ⟨congrArg (fun x => some (Value.int x)) (ch_11 i hi), rfl⟩
set_option maxHeartbeats 1000000 in
theorem chAt_11 {i : Nat} (hi : i < 3) : P0 3 0 0 mJ0_charAt_5068e (0, ent 2 [.ref (sB + 11), .int (nI i)], [], []) (fun r h' => r = some (.int ((wq 11).getD i 0)) ∧ h' = []) := by
  refine P0.b GJ0_charAt_5068e 1 (ob := []) (cf' := (1, [some (.ref (sB + 11)), some (.int (nI i))], [.ref (sB + 11)], [])) rfl trivial ?_
  refine P0.cr (io := []) (as := [.ref (sB + 11)]) (rest := []) (hc := []) (hc1 := []) (r1 := some (.int 1)) (st' := [.int 1]) (h' := []) (d0 := 0) GJ0_isLatin1_aae02 kJ0_charAt_5068e_1 rfl ⟨_, _, rfl, rfl, .inr ⟨rfl, Nat.le_of_ble_eq_true rfl, Nat.le_of_ble_eq_true rfl⟩⟩ (Nat.le_of_ble_eq_true rfl) (Nat.le_of_ble_eq_true rfl) rfl trivial (latin_11) (Nat.le_of_ble_eq_true rfl) rfl (Nat.le_of_ble_eq_true rfl) (Nat.le_of_ble_eq_true rfl) rfl rfl ?_
  refine P0.b GJ0_charAt_5068e 1 (ob := []) (cf' := (if (1 : Int32) = 0 then 16 else 7, [some (.ref (sB + 11)), some (.int (nI i))], [], [])) rfl trivial ?_
  rw [if_neg (show ¬ ((1 : Int32) = 0) from by decide)]
  refine P0.b GJ0_charAt_5068e 3 (ob := []) (cf' := (12, [some (.ref (sB + 11)), some (.int (nI i))], [.int (nI i), .ref (sB + 111)], [])) rfl trivial ?_
  refine P0.cr (io := []) (as := [.ref (sB + 111), .int (nI i)]) (rest := []) (hc := []) (hc1 := []) (r1 := some (.int ((wq 11).getD i 0))) (st' := [.int ((wq 11).getD i 0)]) (h' := []) (d0 := 2) GJ1_charAt_3b067 kJ0_charAt_5068e_12 rfl rfl (Nat.le_of_ble_eq_true rfl) (Nat.le_of_ble_eq_true rfl) rfl trivial (latAt_11 hi) (Nat.le_of_ble_eq_true rfl) rfl (Nat.le_of_ble_eq_true rfl) (Nat.le_of_ble_eq_true rfl) rfl rfl ?_
  exact P0.ri (by decide +kernel) rfl (by exact chn_11 i hi) ⟨rfl, rfl⟩
set_option maxHeartbeats 1000000 in
theorem stands_11 {tp : Nat → Int32} {fr c : Nat} (hfc : fr + c ≤ 160) : P0 4 0 0 mX4_stands (0, ent 5 [.ref (sB + 11), .ref 0, .int (nI fr), .int (nI (fr + c))], [], [pI 160 tp]) (fun r h' => r = some (.int (if isWd (wq 11) tp fr (fr + c) = true then 1 else 0)) ∧ h' = [pI 160 tp]) := by
  refine P0.b GX4_stands 1 (ob := []) (cf' := (1, [some (.ref (sB + 11)), some (.ref 0), some (.int (nI fr)), some (.int (nI (fr + c))), none], [.ref (sB + 11)], [pI 160 tp])) rfl trivial ?_
  refine P0.cr (io := []) (as := [.ref (sB + 11)]) (rest := []) (hc := []) (hc1 := []) (r1 := some (.int 3)) (st' := [.int 3]) (h' := [pI 160 tp]) (d0 := 1) GJ0_len kX4_stands_1s rfl ⟨_, _, rfl, rfl, .inr ⟨rfl, Nat.le_of_ble_eq_true rfl, Nat.le_of_ble_eq_true rfl⟩⟩ (Nat.le_of_ble_eq_true rfl) (Nat.le_of_ble_eq_true rfl) rfl trivial (len_11) (Nat.le_of_ble_eq_true rfl) rfl (Nat.le_of_ble_eq_true rfl) (Nat.le_of_ble_eq_true rfl) rfl rfl ?_
  refine P0.b GX4_stands 4 (ob := []) (cf' := (if 3 = (nI (fr + c)) - (nI fr) then 12 else 10, [some (.ref (sB + 11)), some (.ref 0), some (.int (nI fr)), some (.int (nI (fr + c))), none], [], [pI 160 tp])) rfl trivial ?_
  rw [show (nI (fr + c)) - (nI fr) = nI c from nI_subA fr c]
  refine P0.if (fun h1 => ?_) (fun h1 => ?_)
  · refine P0.b GX4_stands 2 (ob := []) (cf' := (15, [some (.ref (sB + 11)), some (.ref 0), some (.int (nI fr)), some (.int (nI (fr + c))), some (.int 0)], [], [pI 160 tp])) rfl trivial ?_
    have hc5 : c = 3 := wd_c (by omega) (by decide) h1
    refine P0.loopI (N := 3) (fun i (_ : Unit) => ∀ j, j < i → (wq 11).getD j 0 = tp (fr + j)) (fun x170 v170 => (15, [some (.ref (sB + 11)), some (.ref 0), some (.int (nI fr)), some (.int (nI (fr + c))), some (.int x170)], [], [pI 160 tp])) (fun i170 v170 hi170 hI170 hk170 => ?_) (fun v170 hI170 => ?_) 0 () nI_0.symm (fun j hj => absurd hj (Nat.not_lt_zero j))
    · show P0 _ _ _ _ (15, [some (.ref (sB + 11)), some (.ref 0), some (.int (nI fr)), some (.int (nI (fr + c))), some (.int (nI i170))], [], [pI 160 tp]) _
      refine P0.b GX4_stands 2 (ob := []) (cf' := (18, [some (.ref (sB + 11)), some (.ref 0), some (.int (nI fr)), some (.int (nI (fr + c))), some (.int (nI i170))], [.ref (sB + 11), .int (nI i170)], [pI 160 tp])) rfl trivial ?_
      refine P0.cr (io := []) (as := [.ref (sB + 11)]) (rest := [.int (nI i170)]) (hc := []) (hc1 := []) (r1 := some (.int 3)) (st' := [.int 3, .int (nI i170)]) (h' := [pI 160 tp]) (d0 := 1) GJ0_len kX4_stands_18s rfl ⟨_, _, rfl, rfl, .inr ⟨rfl, Nat.le_of_ble_eq_true rfl, Nat.le_of_ble_eq_true rfl⟩⟩ (Nat.le_of_ble_eq_true rfl) (Nat.le_of_ble_eq_true rfl) rfl trivial (len_11) (Nat.le_of_ble_eq_true rfl) rfl (Nat.le_of_ble_eq_true rfl) (Nat.le_of_ble_eq_true rfl) rfl rfl ?_
      refine P0.b GX4_stands 1 (ob := []) (cf' := (if 3 ≤ nI i170 then 49 else 24, [some (.ref (sB + 11)), some (.ref 0), some (.int (nI fr)), some (.int (nI (fr + c))), some (.int (nI i170))], [], [pI 160 tp])) rfl trivial ?_
      rw [if_neg (show ¬ (3 ≤ nI i170) from nI_ge hi170 (by decide))]
      refine P0.b GX4_stands 2 (ob := []) (cf' := (27, [some (.ref (sB + 11)), some (.ref 0), some (.int (nI fr)), some (.int (nI (fr + c))), some (.int (nI i170))], [.int (nI i170), .ref (sB + 11)], [pI 160 tp])) rfl trivial ?_
      refine P0.cr (io := []) (as := [.ref (sB + 11), .int (nI i170)]) (rest := []) (hc := []) (hc1 := []) (r1 := some (.int ((wq 11).getD i170 0))) (st' := [.int ((wq 11).getD i170 0)]) (h' := [pI 160 tp]) (d0 := 3) GJ0_charAt_5068e kX4_stands_27 rfl ⟨_, _, rfl, rfl, .inr ⟨rfl, Nat.le_of_ble_eq_true rfl, Nat.le_of_ble_eq_true rfl⟩⟩ (Nat.le_of_ble_eq_true rfl) (Nat.le_of_ble_eq_true rfl) rfl trivial (chAt_11 hi170) (Nat.le_of_ble_eq_true rfl) rfl (Nat.le_of_ble_eq_true rfl) (Nat.le_of_ble_eq_true rfl) rfl rfl ?_
      refine P0.b GX4_stands 4 (ob := []) (cf' := (35, [some (.ref (sB + 11)), some (.ref 0), some (.int (nI fr)), some (.int (nI (fr + c))), some (.int (nI i170))], [.int ((nI fr) + (nI i170)), .ref 0, .int ((wq 11).getD i170 0)], [pI 160 tp])) rfl trivial ?_
      rw [show (nI fr) + (nI i170) = nI (fr + i170) from nI_add _ _]
      refine P0.cr (io := [0]) (as := [.ref 0, .int (nI (fr + i170))]) (rest := [.int ((wq 11).getD i170 0)]) (hc := [pI 160 tp]) (hc1 := [pI 160 tp]) (r1 := some (.int (tp (fr + i170)))) (st' := [.int (tp (fr + i170)), .int ((wq 11).getD i170 0)]) (h' := [pI 160 tp]) (d0 := 0) GX5_at kX4_stands_35 rfl rfl (Nat.le_of_ble_eq_true rfl) (Nat.le_of_ble_eq_true rfl) rfl ⟨rfl, trivial⟩ (at_in (n := 160) (by decide) tp (k := (fr + i170)) (by omega)) (Nat.zero_le _) rfl (Nat.le_of_ble_eq_true rfl) (Nat.le_of_ble_eq_true rfl) rfl rfl ?_
      refine P0.b GX4_stands 1 (ob := []) (cf' := (if (wq 11).getD i170 0 = tp (fr + i170) then 43 else 41, [some (.ref (sB + 11)), some (.ref 0), some (.int (nI fr)), some (.int (nI (fr + c))), some (.int (nI i170))], [], [pI 160 tp])) rfl trivial ?_
      refine P0.if (fun h2 => ?_) (fun h2 => ?_)
      · refine P0.b GX4_stands 2 (ob := []) (cf' := (15, [some (.ref (sB + 11)), some (.ref 0), some (.int (nI fr)), some (.int (nI (fr + c))), some (.int ((nI i170) + 1))], [], [pI 160 tp])) rfl trivial ?_
        rw [show (nI i170) + 1 = nI (i170 + 1) from nI_add _ _]
        exact hk170 _ () rfl (all_s hI170 h2)
      · refine P0.b GX4_stands 1 (ob := []) (cf' := (42, [some (.ref (sB + 11)), some (.ref 0), some (.int (nI fr)), some (.int (nI (fr + c))), some (.int (nI i170))], [.int 0], [pI 160 tp])) rfl trivial ?_
        exact P0.ri (by decide +kernel) rfl (by rfl) ⟨congrArg (fun x => some (Value.int x)) (wd_no2 wqL_11 hi170 h2), rfl⟩
    · show P0 _ _ _ _ (15, [some (.ref (sB + 11)), some (.ref 0), some (.int (nI fr)), some (.int (nI (fr + c))), some (.int 3)], [], [pI 160 tp]) _
      refine P0.b GX4_stands 2 (ob := []) (cf' := (18, [some (.ref (sB + 11)), some (.ref 0), some (.int (nI fr)), some (.int (nI (fr + c))), some (.int 3)], [.ref (sB + 11), .int 3], [pI 160 tp])) rfl trivial ?_
      refine P0.cr (io := []) (as := [.ref (sB + 11)]) (rest := [.int 3]) (hc := []) (hc1 := []) (r1 := some (.int 3)) (st' := [.int 3, .int 3]) (h' := [pI 160 tp]) (d0 := 1) GJ0_len kX4_stands_18s rfl ⟨_, _, rfl, rfl, .inr ⟨rfl, Nat.le_of_ble_eq_true rfl, Nat.le_of_ble_eq_true rfl⟩⟩ (Nat.le_of_ble_eq_true rfl) (Nat.le_of_ble_eq_true rfl) rfl trivial (len_11) (Nat.le_of_ble_eq_true rfl) rfl (Nat.le_of_ble_eq_true rfl) (Nat.le_of_ble_eq_true rfl) rfl rfl ?_
      refine P0.b GX4_stands 1 (ob := []) (cf' := (if (3 : Int32) ≤ 3 then 49 else 24, [some (.ref (sB + 11)), some (.ref 0), some (.int (nI fr)), some (.int (nI (fr + c))), some (.int 3)], [], [pI 160 tp])) rfl trivial ?_
      rw [if_pos (show ((3 : Int32) ≤ 3) from by decide)]
      refine P0.b GX4_stands 1 (ob := []) (cf' := (50, [some (.ref (sB + 11)), some (.ref 0), some (.int (nI fr)), some (.int (nI (fr + c))), some (.int 3)], [.int 1], [pI 160 tp])) rfl trivial ?_
      exact P0.ri (by decide +kernel) rfl (by rfl) ⟨congrArg (fun x => some (Value.int x)) (wd_yes wqL_11 hc5 hI170), rfl⟩
  · refine P0.b GX4_stands 1 (ob := []) (cf' := (11, [some (.ref (sB + 11)), some (.ref 0), some (.int (nI fr)), some (.int (nI (fr + c))), none], [.int 0], [pI 160 tp])) rfl trivial ?_
    exact P0.ri (by decide +kernel) rfl (by rfl) ⟨congrArg (fun x => some (Value.int x)) (wd_no1 wqL_11 h1), rfl⟩
set_option maxHeartbeats 1000000 in
theorem coder_12 : P0 0 0 0 mJ0_coder_7d493 (0, ent 1 [.ref (sB + 12)], [], []) (fun r h' => r = some (.int 0) ∧ h' = []) := by
  refine P0.b GJ0_coder_7d493 2 (ob := []) (cf' := (if (1 : Int32) = 0 then 13 else 6, [some (.ref (sB + 12))], [], [])) rfl trivial ?_
  rw [if_neg (show ¬ ((1 : Int32) = 0) from by decide)]
  refine P0.b GJ0_coder_7d493 3 (ob := []) (cf' := (14, [some (.ref (sB + 12))], [.int 0], [])) rfl trivial ?_
  exact P0.ri (by decide +kernel) rfl (by rfl) ⟨rfl, rfl⟩
set_option maxHeartbeats 1000000 in
theorem latin_12 : P0 0 0 0 mJ0_isLatin1_aae02 (0, ent 1 [.ref (sB + 12)], [], []) (fun r h' => r = some (.int 1) ∧ h' = []) := by
  refine P0.b GJ0_isLatin1_aae02 2 (ob := []) (cf' := (if (1 : Int32) = 0 then 17 else 6, [some (.ref (sB + 12))], [], [])) rfl trivial ?_
  rw [if_neg (show ¬ ((1 : Int32) = 0) from by decide)]
  refine P0.b GJ0_isLatin1_aae02 3 (ob := []) (cf' := (if (0 : Int32) = 0 then 13 else 17, [some (.ref (sB + 12))], [], [])) rfl trivial ?_
  rw [if_pos (show ((0 : Int32) = 0) from by decide)]
  refine P0.b GJ0_isLatin1_aae02 2 (ob := []) (cf' := (18, [some (.ref (sB + 12))], [.int 1], [])) rfl trivial ?_
  exact P0.ri (by decide +kernel) rfl (by rfl) ⟨rfl, rfl⟩
set_option maxHeartbeats 1000000 in
theorem len_12 : P0 1 0 0 mJ0_len (0, ent 1 [.ref (sB + 12)], [], []) (fun r h' => r = some (.int 3) ∧ h' = []) := by
  refine P0.b GJ0_len 4 (ob := []) (cf' := (6, [some (.ref (sB + 12))], [.ref (sB + 12), .int 3], [])) rfl trivial ?_
  refine P0.cr (io := []) (as := [.ref (sB + 12)]) (rest := [.int 3]) (hc := []) (hc1 := []) (r1 := some (.int 0)) (st' := [.int 0, .int 3]) (h' := []) (d0 := 0) GJ0_coder_7d493 kJ0_len_6 rfl ⟨_, _, rfl, rfl, .inr ⟨rfl, Nat.le_of_ble_eq_true rfl, Nat.le_of_ble_eq_true rfl⟩⟩ (Nat.le_of_ble_eq_true rfl) (Nat.le_of_ble_eq_true rfl) rfl trivial (coder_12) (Nat.le_of_ble_eq_true rfl) rfl (Nat.le_of_ble_eq_true rfl) (Nat.le_of_ble_eq_true rfl) rfl rfl ?_
  refine P0.b GJ0_len 1 (ob := []) (cf' := (10, [some (.ref (sB + 12))], [.int ((3 : Int32) >>> (0 &&& 31))], [])) rfl trivial ?_
  exact P0.ri (by decide +kernel) rfl rfl ⟨by decide +kernel, rfl⟩
theorem ch_12 : ∀ i, i < 3 → (((strB.getD 12 []).getD i 0 &&& 255).toUInt32 % 65536).toInt32 = (wq 12).getD i 0 := by decide +kernel
theorem wqL_12 : (wq 12).length = 3 := by decide
theorem chn_12 : ∀ i, i < 3 → narrow .char (.int ((wq 12).getD i 0)) = .int ((wq 12).getD i 0) := by decide +kernel
set_option maxHeartbeats 1000000 in
theorem latAt_12 {i : Nat} (hi : i < 3) : P0 2 0 0 mJ1_charAt_3b067 (0, ent 2 [.ref (sB + 112), .int (nI i)], [], []) (fun r h' => r = some (.int ((wq 12).getD i 0)) ∧ h' = []) := by
  refine P0.b GJ1_charAt_3b067 3 (ob := []) (cf' := (3, [some (.ref (sB + 112)), some (.int (nI i))], [.int 3, .int (nI i)], [])) rfl trivial ?_
  refine P0.cr (io := []) (as := [.int (nI i), .int 3]) (rest := []) (hc := []) (hc1 := []) (r1 := none) (st' := []) (h' := []) (d0 := 1) GJ0_checkIndex_df160 kJ1_charAt_3b067_3 rfl rfl (Nat.le_of_ble_eq_true rfl) (Nat.le_of_ble_eq_true rfl) rfl trivial (chk_n hi (by decide)) (Nat.le_of_ble_eq_true rfl) rfl (Nat.le_of_ble_eq_true rfl) (Nat.le_of_ble_eq_true rfl) rfl rfl ?_
  refine P0.b GJ1_charAt_3b067 6 (ob := [vp_in (nI i) 3]) (cf' := (14, [some (.ref (sB + 112)), some (.int (nI i))], [.int (((((strB.getD 12 []).getD (nI i).toNatClampNeg 0) &&& 255).toUInt32 % 65536).toInt32)], [])) rfl ⟨nI_vp (by omega) (by decide), trivial⟩ ?_
  rw [show (nI i).toNatClampNeg = i from nI_clamp (by omega)]
  exact P0.ri (by decide +kernel) rfl (by rw [ch_12 i hi]; exact chn_12 i hi) ⟨congrArg (fun x => some (Value.int x)) (ch_12 i hi), rfl⟩
set_option maxHeartbeats 1000000 in
theorem chAt_12 {i : Nat} (hi : i < 3) : P0 3 0 0 mJ0_charAt_5068e (0, ent 2 [.ref (sB + 12), .int (nI i)], [], []) (fun r h' => r = some (.int ((wq 12).getD i 0)) ∧ h' = []) := by
  refine P0.b GJ0_charAt_5068e 1 (ob := []) (cf' := (1, [some (.ref (sB + 12)), some (.int (nI i))], [.ref (sB + 12)], [])) rfl trivial ?_
  refine P0.cr (io := []) (as := [.ref (sB + 12)]) (rest := []) (hc := []) (hc1 := []) (r1 := some (.int 1)) (st' := [.int 1]) (h' := []) (d0 := 0) GJ0_isLatin1_aae02 kJ0_charAt_5068e_1 rfl ⟨_, _, rfl, rfl, .inr ⟨rfl, Nat.le_of_ble_eq_true rfl, Nat.le_of_ble_eq_true rfl⟩⟩ (Nat.le_of_ble_eq_true rfl) (Nat.le_of_ble_eq_true rfl) rfl trivial (latin_12) (Nat.le_of_ble_eq_true rfl) rfl (Nat.le_of_ble_eq_true rfl) (Nat.le_of_ble_eq_true rfl) rfl rfl ?_
  refine P0.b GJ0_charAt_5068e 1 (ob := []) (cf' := (if (1 : Int32) = 0 then 16 else 7, [some (.ref (sB + 12)), some (.int (nI i))], [], [])) rfl trivial ?_
  rw [if_neg (show ¬ ((1 : Int32) = 0) from by decide)]
  refine P0.b GJ0_charAt_5068e 3 (ob := []) (cf' := (12, [some (.ref (sB + 12)), some (.int (nI i))], [.int (nI i), .ref (sB + 112)], [])) rfl trivial ?_
  refine P0.cr (io := []) (as := [.ref (sB + 112), .int (nI i)]) (rest := []) (hc := []) (hc1 := []) (r1 := some (.int ((wq 12).getD i 0))) (st' := [.int ((wq 12).getD i 0)]) (h' := []) (d0 := 2) GJ1_charAt_3b067 kJ0_charAt_5068e_12 rfl rfl (Nat.le_of_ble_eq_true rfl) (Nat.le_of_ble_eq_true rfl) rfl trivial (latAt_12 hi) (Nat.le_of_ble_eq_true rfl) rfl (Nat.le_of_ble_eq_true rfl) (Nat.le_of_ble_eq_true rfl) rfl rfl ?_
  exact P0.ri (by decide +kernel) rfl (by exact chn_12 i hi) ⟨rfl, rfl⟩
set_option maxHeartbeats 1000000 in
theorem stands_12 {tp : Nat → Int32} {fr c : Nat} (hfc : fr + c ≤ 160) : P0 4 0 0 mX4_stands (0, ent 5 [.ref (sB + 12), .ref 0, .int (nI fr), .int (nI (fr + c))], [], [pI 160 tp]) (fun r h' => r = some (.int (if isWd (wq 12) tp fr (fr + c) = true then 1 else 0)) ∧ h' = [pI 160 tp]) := by
  refine P0.b GX4_stands 1 (ob := []) (cf' := (1, [some (.ref (sB + 12)), some (.ref 0), some (.int (nI fr)), some (.int (nI (fr + c))), none], [.ref (sB + 12)], [pI 160 tp])) rfl trivial ?_
  refine P0.cr (io := []) (as := [.ref (sB + 12)]) (rest := []) (hc := []) (hc1 := []) (r1 := some (.int 3)) (st' := [.int 3]) (h' := [pI 160 tp]) (d0 := 1) GJ0_len kX4_stands_1s rfl ⟨_, _, rfl, rfl, .inr ⟨rfl, Nat.le_of_ble_eq_true rfl, Nat.le_of_ble_eq_true rfl⟩⟩ (Nat.le_of_ble_eq_true rfl) (Nat.le_of_ble_eq_true rfl) rfl trivial (len_12) (Nat.le_of_ble_eq_true rfl) rfl (Nat.le_of_ble_eq_true rfl) (Nat.le_of_ble_eq_true rfl) rfl rfl ?_
  refine P0.b GX4_stands 4 (ob := []) (cf' := (if 3 = (nI (fr + c)) - (nI fr) then 12 else 10, [some (.ref (sB + 12)), some (.ref 0), some (.int (nI fr)), some (.int (nI (fr + c))), none], [], [pI 160 tp])) rfl trivial ?_
  rw [show (nI (fr + c)) - (nI fr) = nI c from nI_subA fr c]
  refine P0.if (fun h1 => ?_) (fun h1 => ?_)
  · refine P0.b GX4_stands 2 (ob := []) (cf' := (15, [some (.ref (sB + 12)), some (.ref 0), some (.int (nI fr)), some (.int (nI (fr + c))), some (.int 0)], [], [pI 160 tp])) rfl trivial ?_
    have hc5 : c = 3 := wd_c (by omega) (by decide) h1
    refine P0.loopI (N := 3) (fun i (_ : Unit) => ∀ j, j < i → (wq 12).getD j 0 = tp (fr + j)) (fun x171 v171 => (15, [some (.ref (sB + 12)), some (.ref 0), some (.int (nI fr)), some (.int (nI (fr + c))), some (.int x171)], [], [pI 160 tp])) (fun i171 v171 hi171 hI171 hk171 => ?_) (fun v171 hI171 => ?_) 0 () nI_0.symm (fun j hj => absurd hj (Nat.not_lt_zero j))
    · show P0 _ _ _ _ (15, [some (.ref (sB + 12)), some (.ref 0), some (.int (nI fr)), some (.int (nI (fr + c))), some (.int (nI i171))], [], [pI 160 tp]) _
      refine P0.b GX4_stands 2 (ob := []) (cf' := (18, [some (.ref (sB + 12)), some (.ref 0), some (.int (nI fr)), some (.int (nI (fr + c))), some (.int (nI i171))], [.ref (sB + 12), .int (nI i171)], [pI 160 tp])) rfl trivial ?_
      refine P0.cr (io := []) (as := [.ref (sB + 12)]) (rest := [.int (nI i171)]) (hc := []) (hc1 := []) (r1 := some (.int 3)) (st' := [.int 3, .int (nI i171)]) (h' := [pI 160 tp]) (d0 := 1) GJ0_len kX4_stands_18s rfl ⟨_, _, rfl, rfl, .inr ⟨rfl, Nat.le_of_ble_eq_true rfl, Nat.le_of_ble_eq_true rfl⟩⟩ (Nat.le_of_ble_eq_true rfl) (Nat.le_of_ble_eq_true rfl) rfl trivial (len_12) (Nat.le_of_ble_eq_true rfl) rfl (Nat.le_of_ble_eq_true rfl) (Nat.le_of_ble_eq_true rfl) rfl rfl ?_
      refine P0.b GX4_stands 1 (ob := []) (cf' := (if 3 ≤ nI i171 then 49 else 24, [some (.ref (sB + 12)), some (.ref 0), some (.int (nI fr)), some (.int (nI (fr + c))), some (.int (nI i171))], [], [pI 160 tp])) rfl trivial ?_
      rw [if_neg (show ¬ (3 ≤ nI i171) from nI_ge hi171 (by decide))]
      refine P0.b GX4_stands 2 (ob := []) (cf' := (27, [some (.ref (sB + 12)), some (.ref 0), some (.int (nI fr)), some (.int (nI (fr + c))), some (.int (nI i171))], [.int (nI i171), .ref (sB + 12)], [pI 160 tp])) rfl trivial ?_
      refine P0.cr (io := []) (as := [.ref (sB + 12), .int (nI i171)]) (rest := []) (hc := []) (hc1 := []) (r1 := some (.int ((wq 12).getD i171 0))) (st' := [.int ((wq 12).getD i171 0)]) (h' := [pI 160 tp]) (d0 := 3) GJ0_charAt_5068e kX4_stands_27 rfl ⟨_, _, rfl, rfl, .inr ⟨rfl, Nat.le_of_ble_eq_true rfl, Nat.le_of_ble_eq_true rfl⟩⟩ (Nat.le_of_ble_eq_true rfl) (Nat.le_of_ble_eq_true rfl) rfl trivial (chAt_12 hi171) (Nat.le_of_ble_eq_true rfl) rfl (Nat.le_of_ble_eq_true rfl) (Nat.le_of_ble_eq_true rfl) rfl rfl ?_
      refine P0.b GX4_stands 4 (ob := []) (cf' := (35, [some (.ref (sB + 12)), some (.ref 0), some (.int (nI fr)), some (.int (nI (fr + c))), some (.int (nI i171))], [.int ((nI fr) + (nI i171)), .ref 0, .int ((wq 12).getD i171 0)], [pI 160 tp])) rfl trivial ?_
      rw [show (nI fr) + (nI i171) = nI (fr + i171) from nI_add _ _]
      refine P0.cr (io := [0]) (as := [.ref 0, .int (nI (fr + i171))]) (rest := [.int ((wq 12).getD i171 0)]) (hc := [pI 160 tp]) (hc1 := [pI 160 tp]) (r1 := some (.int (tp (fr + i171)))) (st' := [.int (tp (fr + i171)), .int ((wq 12).getD i171 0)]) (h' := [pI 160 tp]) (d0 := 0) GX5_at kX4_stands_35 rfl rfl (Nat.le_of_ble_eq_true rfl) (Nat.le_of_ble_eq_true rfl) rfl ⟨rfl, trivial⟩ (at_in (n := 160) (by decide) tp (k := (fr + i171)) (by omega)) (Nat.zero_le _) rfl (Nat.le_of_ble_eq_true rfl) (Nat.le_of_ble_eq_true rfl) rfl rfl ?_
      refine P0.b GX4_stands 1 (ob := []) (cf' := (if (wq 12).getD i171 0 = tp (fr + i171) then 43 else 41, [some (.ref (sB + 12)), some (.ref 0), some (.int (nI fr)), some (.int (nI (fr + c))), some (.int (nI i171))], [], [pI 160 tp])) rfl trivial ?_
      refine P0.if (fun h2 => ?_) (fun h2 => ?_)
      · refine P0.b GX4_stands 2 (ob := []) (cf' := (15, [some (.ref (sB + 12)), some (.ref 0), some (.int (nI fr)), some (.int (nI (fr + c))), some (.int ((nI i171) + 1))], [], [pI 160 tp])) rfl trivial ?_
        rw [show (nI i171) + 1 = nI (i171 + 1) from nI_add _ _]
        exact hk171 _ () rfl (all_s hI171 h2)
      · refine P0.b GX4_stands 1 (ob := []) (cf' := (42, [some (.ref (sB + 12)), some (.ref 0), some (.int (nI fr)), some (.int (nI (fr + c))), some (.int (nI i171))], [.int 0], [pI 160 tp])) rfl trivial ?_
        exact P0.ri (by decide +kernel) rfl (by rfl) ⟨congrArg (fun x => some (Value.int x)) (wd_no2 wqL_12 hi171 h2), rfl⟩
    · show P0 _ _ _ _ (15, [some (.ref (sB + 12)), some (.ref 0), some (.int (nI fr)), some (.int (nI (fr + c))), some (.int 3)], [], [pI 160 tp]) _
      refine P0.b GX4_stands 2 (ob := []) (cf' := (18, [some (.ref (sB + 12)), some (.ref 0), some (.int (nI fr)), some (.int (nI (fr + c))), some (.int 3)], [.ref (sB + 12), .int 3], [pI 160 tp])) rfl trivial ?_
      refine P0.cr (io := []) (as := [.ref (sB + 12)]) (rest := [.int 3]) (hc := []) (hc1 := []) (r1 := some (.int 3)) (st' := [.int 3, .int 3]) (h' := [pI 160 tp]) (d0 := 1) GJ0_len kX4_stands_18s rfl ⟨_, _, rfl, rfl, .inr ⟨rfl, Nat.le_of_ble_eq_true rfl, Nat.le_of_ble_eq_true rfl⟩⟩ (Nat.le_of_ble_eq_true rfl) (Nat.le_of_ble_eq_true rfl) rfl trivial (len_12) (Nat.le_of_ble_eq_true rfl) rfl (Nat.le_of_ble_eq_true rfl) (Nat.le_of_ble_eq_true rfl) rfl rfl ?_
      refine P0.b GX4_stands 1 (ob := []) (cf' := (if (3 : Int32) ≤ 3 then 49 else 24, [some (.ref (sB + 12)), some (.ref 0), some (.int (nI fr)), some (.int (nI (fr + c))), some (.int 3)], [], [pI 160 tp])) rfl trivial ?_
      rw [if_pos (show ((3 : Int32) ≤ 3) from by decide)]
      refine P0.b GX4_stands 1 (ob := []) (cf' := (50, [some (.ref (sB + 12)), some (.ref 0), some (.int (nI fr)), some (.int (nI (fr + c))), some (.int 3)], [.int 1], [pI 160 tp])) rfl trivial ?_
      exact P0.ri (by decide +kernel) rfl (by rfl) ⟨congrArg (fun x => some (Value.int x)) (wd_yes wqL_12 hc5 hI171), rfl⟩
  · refine P0.b GX4_stands 1 (ob := []) (cf' := (11, [some (.ref (sB + 12)), some (.ref 0), some (.int (nI fr)), some (.int (nI (fr + c))), none], [.int 0], [pI 160 tp])) rfl trivial ?_
    exact P0.ri (by decide +kernel) rfl (by rfl) ⟨congrArg (fun x => some (Value.int x)) (wd_no1 wqL_12 h1), rfl⟩
