/-! ===== Arrays.copyOf of a row, and what it makes ===== -/
theorem copyOf_n {cd : Nat → Int32} {z : Nat} (hz : z ≤ 160) : P0 0 1 160 mJ7_copyOf_59c91 (0, ent 3 [.ref 0, .int (nI z)], [], [pI 160 cd]) (fun r h' => ∃ f' : Nat → Int32, (∀ i, i < z → f' i = cd i) ∧ r = some (.ref 1) ∧ h' = [pI 160 cd, pI z f']) := by
  refine P0.b GJ7_copyOf_59c91 4 (ob := []) (cf' := (if nI z = Int32.ofNat 160 then 6 else 14, [some (.ref 0), some (.int (nI z)), none], [], [pI 160 cd])) rfl trivial ?_
  refine P0.if (fun h1 => ?_) (fun h1 => ?_)
  · have hz1 : z = 160 := Nat.le_antisymm hz ((nI_leI (a := 160) (by decide) (by omega)).mp (Int32.le_of_eq h1.symm))
    refine P0.blk (mc := 0) (ms := 0) (dc := 1) (ds := 160) GJ7_copyOf_59c91 3 (ob := [wfP [some (.ref 0), some (.int (nI z)), none] [.ref 0] [pI 160 cd], 160 ≤ 100000]) (cf' := (13, [some (.ref 0), some (.int (nI z)), none], [.ref 1], [pI 160 cd, pI 160 cd])) rfl ⟨wfP_of rfl, by decide, trivial⟩ ?_
    exact P0.ra (by decide +kernel) rfl (.inr ⟨_, rfl⟩) (.inr ⟨_, rfl⟩) ⟨cd, fun _ _ => rfl, rfl, by rw [hz1]⟩
  · have hz2 : z < 160 := Nat.lt_of_le_of_ne hz (fun e => h1 (by rw [e]; rfl))
    have e := nI_clamp (show z < 2 ^ 31 by omega)
    refine P0.b GJ7_copyOf_59c91 1 (ob := []) (cf' := (15, [some (.ref 0), some (.int (nI z)), none], [.int (nI z)], [pI 160 cd])) rfl trivial ?_
    refine P0.mono (P0.blk (d := 0) (mc := 0) (ms := 0) (dc := 1) (ds := (nI z).toNatClampNeg) GJ7_copyOf_59c91 1 (ob := [wfP [some (.ref 0), some (.int (nI z)), none] [] [pI 160 cd], ¬ nI z < 0, (nI z).toNatClampNeg ≤ 100000]) (cf' := (17, [some (.ref 0), some (.int (nI z)), none], [.ref 1], [pI 160 cd, pI (nI z).toNatClampNeg (fun _ => 0)])) rfl ⟨wfP_of rfl, nI_pos (by omega), by rw [e]; omega, trivial⟩ ?_) (Nat.le_refl _) (Nat.le_refl _) (by rw [e]; omega) (fun _ _ q => q)
    rw [e]
    refine P0.b GJ7_copyOf_59c91 9 (ob := []) (cf' := (28, [some (.ref 0), some (.int (nI z)), some (.ref 1)], [.int (if nI z < Int32.ofNat 160 then nI z else Int32.ofNat 160), .int 0, .ref 1, .int 0, .ref 0], [pI 160 cd, pI z (fun _ => 0)])) rfl trivial ?_
    rw [if_pos (show nI z < Int32.ofNat 160 from (nI_ltI (b := 160) (by omega) (by decide)).mpr hz2)]
    refine P0.b GJ7_copyOf_59c91 2 (ob := [¬ (0 : Int32) < 0, ¬ (0 : Int32) < 0, ¬ nI z < 0, (0 : Int32).toNatClampNeg + (nI z).toNatClampNeg ≤ 160, (0 : Int32).toNatClampNeg + (nI z).toNatClampNeg ≤ z]) (cf' := (32, [some (.ref 0), some (.int (nI z)), some (.ref 1)], [.ref 1], [pI 160 cd, pI z (va_cpy cd (fun _ => 0) (0 : Int32).toNatClampNeg (0 : Int32).toNatClampNeg (nI z).toNatClampNeg)])) rfl ⟨by decide, by decide, nI_pos (by omega), by rw [e, show (0 : Int32).toNatClampNeg = 0 from rfl]; omega, by rw [e, show (0 : Int32).toNatClampNeg = 0 from rfl]; omega, trivial⟩ ?_
    refine P0.ra (by decide +kernel) rfl (.inr ⟨_, rfl⟩) (.inr ⟨_, rfl⟩) ⟨_, fun i hi => ?_, rfl, rfl⟩
    rw [e, show (0 : Int32).toNatClampNeg = 0 from rfl, pk_cpy_in (by omega) (by omega)]
    rw [Nat.sub_zero, Nat.zero_add]
