/-! ===== printed by program: words, tables of the methods, call sites ===== -/
set_option maxRecDepth 20000 in
theorem GX10_init : Good mX10_init := ⟨by decide +kernel, List.mem_of_getElem? (i := 143) (by decide +kernel), inX10, ⟨by decide +kernel, by decide +kernel⟩, by decide, show ∀ q ∈ tX10_init, Snd mX10_init q.1 q.2 from
  sndC (sd_aload_n (hi := rfl) (hd := (by decide +kernel : decode cX10_init 0 = .ok (.aload_n 0, 1)))) (
   sndC (sd_objInit (hl := w_144) (hi0 := w_145) (hc0 := w_146) (hd := (by decide +kernel : decode cX10_init 1 = .ok (.invokespecial 1, 3)))) (
   sndC (sd_aload_n (hi := rfl) (hd := (by decide +kernel : decode cX10_init 4 = .ok (.aload_n 0, 1)))) (
   sndC (sd_bipush (hd := (by decide +kernel : decode cX10_init 5 = .ok (.bipush 6, 2))) (hv := by decide)) (
   sndC (sd_newI (hw0 := w_178) (hd := (by decide +kernel : decode cX10_init 7 = .ok (.newarray .int, 2)))) (
   sndC (sd_putAF (C := RX10) (T := TX10) (N := 18) (hc := rfl) (hin0 := iX10) (hk := by decide) (hlink := w_511) (ty0 := tyX10) (hty := tyX10_ok) (hnm := nmX10) (hfin := rfl) (hi2 := rfl) (hdecl := rfl) (hi := .inr ⟨_, rfl⟩) (hd := (by decide +kernel : decode cX10_init 9 = .ok (.putfield 9, 3)))) (
   sndC (sd_aload_n (hi := rfl) (hd := (by decide +kernel : decode cX10_init 12 = .ok (.aload_n 0, 1)))) (
   sndC (sd_bipush (hd := (by decide +kernel : decode cX10_init 13 = .ok (.bipush 6, 2))) (hv := by decide)) (
   sndC (sd_newI (hw0 := w_178) (hd := (by decide +kernel : decode cX10_init 15 = .ok (.newarray .int, 2)))) (
   sndC (sd_putAF (C := RX10) (T := TX10) (N := 18) (hc := rfl) (hin0 := iX10) (hk := by decide) (hlink := w_512) (ty0 := tyX10) (hty := tyX10_ok) (hnm := nmX10) (hfin := rfl) (hi2 := rfl) (hdecl := rfl) (hi := .inr ⟨_, rfl⟩) (hd := (by decide +kernel : decode cX10_init 17 = .ok (.putfield 13, 3)))) (
   sndC (sd_aload_n (hi := rfl) (hd := (by decide +kernel : decode cX10_init 20 = .ok (.aload_n 0, 1)))) (
   sndC (sd_bipush (hd := (by decide +kernel : decode cX10_init 21 = .ok (.bipush 6, 2))) (hv := by decide)) (
   sndC (sd_newQ4 (hcl := w_147) (hov := w_148) (hd := (by decide +kernel : decode cX10_init 23 = .ok (.anewarray 16, 3)))) (
   sndC (sd_putAF (C := RX10) (T := TX10) (N := 18) (hc := rfl) (hin0 := iX10) (hk := by decide) (hlink := w_513) (ty0 := tyX10) (hty := tyX10_ok) (hnm := nmX10) (hfin := rfl) (hi2 := rfl) (hdecl := rfl) (hi := .inr ⟨_, rfl⟩) (hd := (by decide +kernel : decode cX10_init 26 = .ok (.putfield 18, 3)))) (
   sndC (sd_aload_n (hi := rfl) (hd := (by decide +kernel : decode cX10_init 29 = .ok (.aload_n 0, 1)))) (
   sndC (sd_bipush (hd := (by decide +kernel : decode cX10_init 30 = .ok (.bipush 6, 2))) (hv := by decide)) (
   sndC (sd_newQ3 (hcl := w_149) (hov := w_150) (hd := (by decide +kernel : decode cX10_init 32 = .ok (.anewarray 22, 3)))) (
   sndC (sd_putAF (C := RX10) (T := TX10) (N := 18) (hc := rfl) (hin0 := iX10) (hk := by decide) (hlink := w_514) (ty0 := tyX10) (hty := tyX10_ok) (hnm := nmX10) (hfin := rfl) (hi2 := rfl) (hdecl := rfl) (hi := .inr ⟨_, rfl⟩) (hd := (by decide +kernel : decode cX10_init 35 = .ok (.putfield 24, 3)))) (
   sndC (sd_aload_n (hi := rfl) (hd := (by decide +kernel : decode cX10_init 38 = .ok (.aload_n 0, 1)))) (
   sndC (sd_sipush (hd := (by decide +kernel : decode cX10_init 39 = .ok (.sipush 160, 3))) (hv := by decide)) (
   sndC (sd_newI (hw0 := w_178) (hd := (by decide +kernel : decode cX10_init 42 = .ok (.newarray .int, 2)))) (
   sndC (sd_putAF (C := RX10) (T := TX10) (N := 18) (hc := rfl) (hin0 := iX10) (hk := by decide) (hlink := w_515) (ty0 := tyX10) (hty := tyX10_ok) (hnm := nmX10) (hfin := rfl) (hi2 := rfl) (hdecl := rfl) (hi := .inr ⟨_, rfl⟩) (hd := (by decide +kernel : decode cX10_init 44 = .ok (.putfield 28, 3)))) (
   sndC (sd_aload_n (hi := rfl) (hd := (by decide +kernel : decode cX10_init 47 = .ok (.aload_n 0, 1)))) (
   sndC (sd_iconst (hd := (by decide +kernel : decode cX10_init 48 = .ok (.iconst 4, 1))) (hv := by decide)) (
   sndC (sd_newQ2 (hcl := w_151) (hov := w_152) (hd := (by decide +kernel : decode cX10_init 49 = .ok (.anewarray 31, 3)))) (
   sndC (sd_putAF (C := RX10) (T := TX10) (N := 18) (hc := rfl) (hin0 := iX10) (hk := by decide) (hlink := w_516) (ty0 := tyX10) (hty := tyX10_ok) (hnm := nmX10) (hfin := rfl) (hi2 := rfl) (hdecl := rfl) (hi := .inr ⟨_, rfl⟩) (hd := (by decide +kernel : decode cX10_init 52 = .ok (.putfield 33, 3)))) (
   sndC (sd_aload_n (hi := rfl) (hd := (by decide +kernel : decode cX10_init 55 = .ok (.aload_n 0, 1)))) (
   sndC (sd_new (C := RX4) (T := TX4) (N := 6) (hc := rfl) (hin0 := iX4) (ty0 := tyX4) (hty := tyX4_ok) (hcl := w_153) (hinst := w_154) (hini := w_120) (hfs := fsX4) (hft := fun _ => rfl) (hd := (by decide +kernel : decode cX10_init 56 = .ok (.new 37, 3)))) (
   sndC (sd_dup (hd := (by decide +kernel : decode cX10_init 59 = .ok (.dup, 1)))) (
   sndC (sd_putAF (C := RX10) (T := TX10) (N := 18) (hc := rfl) (hin0 := iX10) (hk := by decide) (hlink := w_517) (ty0 := tyX10) (hty := tyX10_ok) (hnm := nmX10) (hfin := rfl) (hi2 := rfl) (hdecl := rfl) (hi := .inl ⟨_, rfl⟩) (hd := (by decide +kernel : decode cX10_init 63 = .ok (.putfield 40, 3)))) (
   sndC (sd_aload_n (hi := rfl) (hd := (by decide +kernel : decode cX10_init 66 = .ok (.aload_n 0, 1)))) (
   sndC (sd_new (C := RX3) (T := TX3) (N := 7) (hc := rfl) (hin0 := iX3) (ty0 := tyX3) (hty := tyX3_ok) (hcl := w_179) (hinst := w_180) (hini := w_121) (hfs := fsX3) (hft := fun _ => rfl) (hd := (by decide +kernel : decode cX10_init 67 = .ok (.new 44, 3)))) (
   sndC (sd_dup (hd := (by decide +kernel : decode cX10_init 70 = .ok (.dup, 1)))) (
   sndC (sd_putAF (C := RX10) (T := TX10) (N := 18) (hc := rfl) (hin0 := iX10) (hk := by decide) (hlink := w_518) (ty0 := tyX10) (hty := tyX10_ok) (hnm := nmX10) (hfin := rfl) (hi2 := rfl) (hdecl := rfl) (hi := .inl ⟨_, rfl⟩) (hd := (by decide +kernel : decode cX10_init 74 = .ok (.putfield 47, 3)))) (
   sndC (sd_aload_n (hi := rfl) (hd := (by decide +kernel : decode cX10_init 77 = .ok (.aload_n 0, 1)))) (
   sndC (sd_new (C := RX2) (T := TX2) (N := 5) (hc := rfl) (hin0 := iX2) (ty0 := tyX2) (hty := tyX2_ok) (hcl := w_211) (hinst := w_212) (hini := w_122) (hfs := fsX2) (hft := fun _ => rfl) (hd := (by decide +kernel : decode cX10_init 78 = .ok (.new 51, 3)))) (
   sndC (sd_dup (hd := (by decide +kernel : decode cX10_init 81 = .ok (.dup, 1)))) (
   sndC (sd_putAF (C := RX10) (T := TX10) (N := 18) (hc := rfl) (hin0 := iX10) (hk := by decide) (hlink := w_519) (ty0 := tyX10) (hty := tyX10_ok) (hnm := nmX10) (hfin := rfl) (hi2 := rfl) (hdecl := rfl) (hi := .inl ⟨_, rfl⟩) (hd := (by decide +kernel : decode cX10_init 85 = .ok (.putfield 54, 3)))) (
   sndC (sd_aload_n (hi := rfl) (hd := (by decide +kernel : decode cX10_init 88 = .ok (.aload_n 0, 1)))) (
   sndC (sd_new (C := RX0) (T := TX0) (N := 8) (hc := rfl) (hin0 := iX0) (ty0 := tyX0) (hty := tyX0_ok) (hcl := w_233) (hinst := w_234) (hini := w_123) (hfs := fsX0) (hft := fun _ => rfl) (hd := (by decide +kernel : decode cX10_init 89 = .ok (.new 58, 3)))) (
   sndC (sd_dup (hd := (by decide +kernel : decode cX10_init 92 = .ok (.dup, 1)))) (
   sndC (sd_putAF (C := RX10) (T := TX10) (N := 18) (hc := rfl) (hin0 := iX10) (hk := by decide) (hlink := w_520) (ty0 := tyX10) (hty := tyX10_ok) (hnm := nmX10) (hfin := rfl) (hi2 := rfl) (hdecl := rfl) (hi := .inl ⟨_, rfl⟩) (hd := (by decide +kernel : decode cX10_init 96 = .ok (.putfield 61, 3)))) (
   sndC (sd_aload_n (hi := rfl) (hd := (by decide +kernel : decode cX10_init 99 = .ok (.aload_n 0, 1)))) (
   sndC (sd_bipush (hd := (by decide +kernel : decode cX10_init 100 = .ok (.bipush 96, 2))) (hv := by decide)) (
   sndC (sd_newI (hw0 := w_178) (hd := (by decide +kernel : decode cX10_init 102 = .ok (.newarray .int, 2)))) (
   sndC (sd_putAF (C := RX10) (T := TX10) (N := 18) (hc := rfl) (hin0 := iX10) (hk := by decide) (hlink := w_521) (ty0 := tyX10) (hty := tyX10_ok) (hnm := nmX10) (hfin := rfl) (hi2 := rfl) (hdecl := rfl) (hi := .inr ⟨_, rfl⟩) (hd := (by decide +kernel : decode cX10_init 104 = .ok (.putfield 65, 3)))) (
   sndC (sd_aload_n (hi := rfl) (hd := (by decide +kernel : decode cX10_init 107 = .ok (.aload_n 0, 1)))) (
   sndC (sd_bipush (hd := (by decide +kernel : decode cX10_init 108 = .ok (.bipush 6, 2))) (hv := by decide)) (
   sndC (sd_newI (hw0 := w_178) (hd := (by decide +kernel : decode cX10_init 110 = .ok (.newarray .int, 2)))) (
   sndC (sd_putAF (C := RX10) (T := TX10) (N := 18) (hc := rfl) (hin0 := iX10) (hk := by decide) (hlink := w_522) (ty0 := tyX10) (hty := tyX10_ok) (hnm := nmX10) (hfin := rfl) (hi2 := rfl) (hdecl := rfl) (hi := .inr ⟨_, rfl⟩) (hd := (by decide +kernel : decode cX10_init 112 = .ok (.putfield 68, 3)))) (
   sndC (sd_aload_n (hi := rfl) (hd := (by decide +kernel : decode cX10_init 115 = .ok (.aload_n 0, 1)))) (
   sndC (sd_bipush (hd := (by decide +kernel : decode cX10_init 116 = .ok (.bipush 30, 2))) (hv := by decide)) (
   sndC (sd_putI (C := RX10) (T := TX10) (N := 18) (hc := rfl) (hin0 := iX10) (hk := by decide) (hlink := w_523) (ty0 := tyX10) (hty := tyX10_ok) (hnm := nmX10) (hfin := rfl) (hi := rfl) (hd := (by decide +kernel : decode cX10_init 118 = .ok (.putfield 71, 3)))) (
   sndC (sd_aload_n (hi := rfl) (hd := (by decide +kernel : decode cX10_init 121 = .ok (.aload_n 0, 1)))) (
   sndC (sd_iconst (hd := (by decide +kernel : decode cX10_init 122 = .ok (.iconst 1, 1))) (hv := by decide)) (
   sndC (sd_putI (C := RX10) (T := TX10) (N := 18) (hc := rfl) (hin0 := iX10) (hk := by decide) (hlink := w_525) (ty0 := tyX10) (hty := tyX10_ok) (hnm := nmX10) (hfin := rfl) (hi := rfl) (hd := (by decide +kernel : decode cX10_init 123 = .ok (.putfield 75, 3)))) (
   sndC (sd_iconst (hd := (by decide +kernel : decode cX10_init 126 = .ok (.iconst 0, 1))) (hv := by decide)) (
   sndC (sd_istore_n (hi := rfl) (hd := (by decide +kernel : decode cX10_init 127 = .ok (.istore_n 1, 1)))) (
   sndC (sd_iload_n (hi := rfl) (hd := (by decide +kernel : decode cX10_init 128 = .ok (.iload_n 1, 1)))) (
   sndC (sd_bipush (hd := (by decide +kernel : decode cX10_init 129 = .ok (.bipush 6, 2))) (hv := by decide)) (
   sndC (sd_cmp_ge (ht := by decide) (hd := (by decide +kernel : decode cX10_init 131 = .ok (.if_icmp .ge 22, 3)))) (
   sndC (sd_aload_n (hi := rfl) (hd := (by decide +kernel : decode cX10_init 134 = .ok (.aload_n 0, 1)))) (
   sndC (sd_get (C := RX10) (T := TX10) (N := 18) (hc := rfl) (hin0 := iX10) (hk := by decide) (hlink := w_513) (hd := (by decide +kernel : decode cX10_init 135 = .ok (.getfield 18, 3)))) (
   sndC (sd_iload_n (hi := rfl) (hd := (by decide +kernel : decode cX10_init 138 = .ok (.iload_n 1, 1)))) (
   sndC (sd_new (C := RX9) (T := TX9) (N := 10) (hc := rfl) (hin0 := iX9) (ty0 := tyX9) (hty := tyX9_ok) (hcl := w_147) (hinst := w_268) (hini := w_124) (hfs := fsX9) (hft := fun _ => rfl) (hd := (by decide +kernel : decode cX10_init 139 = .ok (.new 16, 3)))) (
   sndC (sd_dup (hd := (by decide +kernel : decode cX10_init 142 = .ok (.dup, 1)))) (
   sndC (sd_qast (hd := (by decide +kernel : decode cX10_init 146 = .ok (.aastore, 1)))) (
   sndC (sd_iinc (hv := by decide) (hd := (by decide +kernel : decode cX10_init 147 = .ok (.iinc 1 1, 3)))) (
   sndC (sd_goto (ht := by decide) (hd := (by decide +kernel : decode cX10_init 150 = .ok (.goto (-22), 3)))) (
   sndC (sd_iconst (hd := (by decide +kernel : decode cX10_init 153 = .ok (.iconst 0, 1))) (hv := by decide)) (
   sndC (sd_istore_n (hi := rfl) (hd := (by decide +kernel : decode cX10_init 154 = .ok (.istore_n 1, 1)))) (
   sndC (sd_iload_n (hi := rfl) (hd := (by decide +kernel : decode cX10_init 155 = .ok (.iload_n 1, 1)))) (
   sndC (sd_iconst (hd := (by decide +kernel : decode cX10_init 156 = .ok (.iconst 4, 1))) (hv := by decide)) (
   sndC (sd_cmp_ge (ht := by decide) (hd := (by decide +kernel : decode cX10_init 157 = .ok (.if_icmp .ge 22, 3)))) (
   sndC (sd_aload_n (hi := rfl) (hd := (by decide +kernel : decode cX10_init 160 = .ok (.aload_n 0, 1)))) (
   sndC (sd_get (C := RX10) (T := TX10) (N := 18) (hc := rfl) (hin0 := iX10) (hk := by decide) (hlink := w_516) (hd := (by decide +kernel : decode cX10_init 161 = .ok (.getfield 33, 3)))) (
   sndC (sd_iload_n (hi := rfl) (hd := (by decide +kernel : decode cX10_init 164 = .ok (.iload_n 1, 1)))) (
   sndC (sd_new (C := RX6) (T := TX6) (N := 3) (hc := rfl) (hin0 := iX6) (ty0 := tyX6) (hty := tyX6_ok) (hcl := w_151) (hinst := w_312) (hini := w_125) (hfs := fsX6) (hft := fun _ => rfl) (hd := (by decide +kernel : decode cX10_init 165 = .ok (.new 31, 3)))) (
   sndC (sd_dup (hd := (by decide +kernel : decode cX10_init 168 = .ok (.dup, 1)))) (
   sndC (sd_qast (hd := (by decide +kernel : decode cX10_init 172 = .ok (.aastore, 1)))) (
   sndC (sd_iinc (hv := by decide) (hd := (by decide +kernel : decode cX10_init 173 = .ok (.iinc 1 1, 3)))) (
   sndC (sd_goto (ht := by decide) (hd := (by decide +kernel : decode cX10_init 176 = .ok (.goto (-21), 3)))) (
   sndC (sd_iconst (hd := (by decide +kernel : decode cX10_init 179 = .ok (.iconst 0, 1))) (hv := by decide)) (
   sndC (sd_istore_n (hi := rfl) (hd := (by decide +kernel : decode cX10_init 180 = .ok (.istore_n 1, 1)))) (
   sndC (sd_iload_n (hi := rfl) (hd := (by decide +kernel : decode cX10_init 181 = .ok (.iload_n 1, 1)))) (
   sndC (sd_ldcS (i := 0) (hi := rfl) (hd := (by decide +kernel : decode cX10_init 182 = .ok (.ldc 80, 2)))) (
   sndC (sd_cmp_ge (ht := by decide) (hd := (by decide +kernel : decode cX10_init 187 = .ok (.if_icmp .ge 28, 3)))) (
   sndC (sd_iload_n (hi := rfl) (hd := (by decide +kernel : decode cX10_init 190 = .ok (.iload_n 1, 1)))) (
   sndC (sd_sipush (hd := (by decide +kernel : decode cX10_init 191 = .ok (.sipush 160, 3))) (hv := by decide)) (
   sndC (sd_cmp_ge (ht := by decide) (hd := (by decide +kernel : decode cX10_init 194 = .ok (.if_icmp .ge 21, 3)))) (
   sndC (sd_aload_n (hi := rfl) (hd := (by decide +kernel : decode cX10_init 197 = .ok (.aload_n 0, 1)))) (
   sndC (sd_get (C := RX10) (T := TX10) (N := 18) (hc := rfl) (hin0 := iX10) (hk := by decide) (hlink := w_515) (hd := (by decide +kernel : decode cX10_init 198 = .ok (.getfield 28, 3)))) (
   sndC (sd_iload_n (hi := rfl) (hd := (by decide +kernel : decode cX10_init 201 = .ok (.iload_n 1, 1)))) (
   sndC (sd_ldcS (i := 0) (hi := rfl) (hd := (by decide +kernel : decode cX10_init 202 = .ok (.ldc 80, 2)))) (
   sndC (sd_iload_n (hi := rfl) (hd := (by decide +kernel : decode cX10_init 204 = .ok (.iload_n 1, 1)))) (
   sndC (sd_iast (hd := (by decide +kernel : decode cX10_init 208 = .ok (.iastore, 1)))) (
   sndC (sd_iinc (hv := by decide) (hd := (by decide +kernel : decode cX10_init 209 = .ok (.iinc 1 1, 3)))) (
   sndC (sd_goto (ht := by decide) (hd := (by decide +kernel : decode cX10_init 212 = .ok (.goto (-31), 3)))) (
   sndC (sd_aload_n (hi := rfl) (hd := (by decide +kernel : decode cX10_init 215 = .ok (.aload_n 0, 1)))) (
   sndC (sd_get (C := RX10) (T := TX10) (N := 18) (hc := rfl) (hin0 := iX10) (hk := by decide) (hlink := w_517) (hd := (by decide +kernel : decode cX10_init 216 = .ok (.getfield 40, 3)))) (
   sndC (sd_aload_n (hi := rfl) (hd := (by decide +kernel : decode cX10_init 219 = .ok (.aload_n 0, 1)))) (
   sndC (sd_get (C := RX10) (T := TX10) (N := 18) (hc := rfl) (hin0 := iX10) (hk := by decide) (hlink := w_515) (hd := (by decide +kernel : decode cX10_init 220 = .ok (.getfield 28, 3)))) (
   sndC (sd_ldcS (i := 0) (hi := rfl) (hd := (by decide +kernel : decode cX10_init 223 = .ok (.ldc 80, 2)))) (
   sndC (sd_pop (hd := (by decide +kernel : decode cX10_init 231 = .ok (.pop, 1)))) (
   sndC (sd_aload_n (hi := rfl) (hd := (by decide +kernel : decode cX10_init 232 = .ok (.aload_n 0, 1)))) (
   sndC (sd_aload_n (hi := rfl) (hd := (by decide +kernel : decode cX10_init 233 = .ok (.aload_n 0, 1)))) (
   sndC (sd_get (C := RX10) (T := TX10) (N := 18) (hc := rfl) (hin0 := iX10) (hk := by decide) (hlink := w_517) (hd := (by decide +kernel : decode cX10_init 234 = .ok (.getfield 40, 3)))) (
   sndC (sd_putA (C := RX10) (T := TX10) (N := 18) (hc := rfl) (hin0 := iX10) (hk := by decide) (hlink := w_528) (ty0 := tyX10) (hty := tyX10_ok) (hnm := nmX10) (hfin := rfl) (hi := .inl ⟨_, rfl⟩) (hd := (by decide +kernel : decode cX10_init 240 = .ok (.putfield 100, 3)))) (
   sndC (sd_aload_n (hi := rfl) (hd := (by decide +kernel : decode cX10_init 243 = .ok (.aload_n 0, 1)))) (
   sndC (sd_get (C := RX10) (T := TX10) (N := 18) (hc := rfl) (hin0 := iX10) (hk := by decide) (hlink := w_514) (hd := (by decide +kernel : decode cX10_init 244 = .ok (.getfield 24, 3)))) (
   sndC (sd_iconst (hd := (by decide +kernel : decode cX10_init 247 = .ok (.iconst 0, 1))) (hv := by decide)) (
   sndC (sd_aload_n (hi := rfl) (hd := (by decide +kernel : decode cX10_init 248 = .ok (.aload_n 0, 1)))) (
   sndC (sd_get (C := RX10) (T := TX10) (N := 18) (hc := rfl) (hin0 := iX10) (hk := by decide) (hlink := w_528) (hd := (by decide +kernel : decode cX10_init 249 = .ok (.getfield 100, 3)))) (
   sndC (sd_qast (hd := (by decide +kernel : decode cX10_init 252 = .ok (.aastore, 1)))) (
   sndN))))))))))))))))))))))))))))))))))))))))))))))))))))))))))))))))))))))))))))))))))))))))))))))))))))))))))))))))))⟩
theorem kX10_init_60 : CallAt mX10_init 60 3 mX4_init 0 := ⟨by decide +kernel, ⟨_, "ToldByWitnesses", (by decide +kernel : decode cX10_init 60 = .ok (.invokespecial 39, 3)), w_155, w_156, rfl, rfl⟩⟩
theorem kX10_init_71 : CallAt mX10_init 71 3 mX3_init 0 := ⟨by decide +kernel, ⟨_, "ToldByWitnesses", (by decide +kernel : decode cX10_init 71 = .ok (.invokespecial 46, 3)), w_181, w_182, rfl, rfl⟩⟩
theorem kX10_init_82 : CallAt mX10_init 82 3 mX2_init 0 := ⟨by decide +kernel, ⟨_, "ToldByWitnesses", (by decide +kernel : decode cX10_init 82 = .ok (.invokespecial 53, 3)), w_213, w_214, rfl, rfl⟩⟩
theorem kX10_init_93 : CallAt mX10_init 93 3 mX0_init 0 := ⟨by decide +kernel, ⟨_, "ToldByWitnesses", (by decide +kernel : decode cX10_init 93 = .ok (.invokespecial 60, 3)), w_235, w_236, rfl, rfl⟩⟩
theorem kX10_init_143 : CallAt mX10_init 143 3 mX9_init 0 := ⟨by decide +kernel, ⟨_, "ToldByWitnesses", (by decide +kernel : decode cX10_init 143 = .ok (.invokespecial 78, 3)), w_269, w_270, rfl, rfl⟩⟩
theorem kX10_init_169 : CallAt mX10_init 169 3 mX6_init 0 := ⟨by decide +kernel, ⟨_, "ToldByWitnesses", (by decide +kernel : decode cX10_init 169 = .ok (.invokespecial 79, 3)), w_313, w_314, rfl, rfl⟩⟩
theorem kX10_init_184 : CallAt mX10_init 184 0 mJ0_length_8abf5 0 := ⟨by decide +kernel, ⟨_, (by decide +kernel : decode cX10_init 184 = .ok (.invokevirtual 82, 3)), w_331, w_332, w_333⟩⟩
theorem kX10_init_205 : CallAt mX10_init 205 0 mJ0_charAt_5068e 1 := ⟨by decide +kernel, ⟨_, (by decide +kernel : decode cX10_init 205 = .ok (.invokevirtual 88, 3)), w_341, w_342, w_343⟩⟩
theorem kX10_init_225 : CallAt mX10_init 225 0 mJ0_length_8abf5 0 := ⟨by decide +kernel, ⟨_, (by decide +kernel : decode cX10_init 225 = .ok (.invokevirtual 82, 3)), w_331, w_332, w_333⟩⟩
theorem kX10_init_228 : CallAt mX10_init 228 0 mX4_faultOf 2 := ⟨by decide +kernel, ⟨_, (by decide +kernel : decode cX10_init 228 = .ok (.invokevirtual 92, 3)), w_379, w_380, w_381⟩⟩
theorem kX10_init_237 : CallAt mX10_init 237 0 mX4_textRead 0 := ⟨by decide +kernel, ⟨_, (by decide +kernel : decode cX10_init 237 = .ok (.invokevirtual 96, 3)), w_472, w_473, w_474⟩⟩

set_option maxRecDepth 20000 in
theorem GX10_set : Good mX10_set := ⟨by decide +kernel, List.mem_of_getElem? (i := 569) (by decide +kernel), inX10, ⟨by decide +kernel, by decide +kernel⟩, by decide, show ∀ q ∈ tX10_set, Snd mX10_set q.1 q.2 from
  sndC (sd_iload_n (hi := rfl) (hd := (by decide +kernel : decode cX10_set 0 = .ok (.iload_n 1, 1)))) (
   sndC (sd_tsw (hd := (by decide +kernel : decode cX10_set 1 = .ok (.tableswitch 59 0 4 #[35, 41, 48, 48, 48], 35))) (hok := by decide +kernel)) (
   sndC (sd_aload_n (hi := rfl) (hd := (by decide +kernel : decode cX10_set 36 = .ok (.aload_n 0, 1)))) (
   sndC (sd_iload_n (hi := rfl) (hd := (by decide +kernel : decode cX10_set 37 = .ok (.iload_n 3, 1)))) (
   sndC (sd_aload_n (hi := rfl) (hd := (by decide +kernel : decode cX10_set 42 = .ok (.aload_n 0, 1)))) (
   sndC (sd_iload_n (hi := rfl) (hd := (by decide +kernel : decode cX10_set 43 = .ok (.iload_n 2, 1)))) (
   sndC (sd_iload_n (hi := rfl) (hd := (by decide +kernel : decode cX10_set 44 = .ok (.iload_n 3, 1)))) (
   sndC (sd_iload_n (hi := rfl) (hd := (by decide +kernel : decode cX10_set 49 = .ok (.iload_n 1, 1)))) (
   sndC (sd_aload_n (hi := rfl) (hd := (by decide +kernel : decode cX10_set 50 = .ok (.aload_n 0, 1)))) (
   sndC (sd_iload_n (hi := rfl) (hd := (by decide +kernel : decode cX10_set 51 = .ok (.iload_n 2, 1)))) (
   sndC (sd_iload_n (hi := rfl) (hd := (by decide +kernel : decode cX10_set 55 = .ok (.iload_n 3, 1)))) (
   sndC (sd_bipush (hd := (by decide +kernel : decode cX10_set 60 = .ok (.bipush (-2), 2))) (hv := by decide)) (
   sndN))))))))))))⟩
theorem kX10_set_38 : CallAt mX10_set 38 0 mX10_setAge 1 := ⟨by decide +kernel, ⟨_, (by decide +kernel : decode cX10_set 38 = .ok (.invokevirtual 104, 3)), w_570, w_572, w_9⟩⟩
theorem kX10_set_45 : CallAt mX10_set 45 0 mX10_setDoing 2 := ⟨by decide +kernel, ⟨_, (by decide +kernel : decode cX10_set 45 = .ok (.invokevirtual 108, 3)), w_577, w_579, w_10⟩⟩
theorem kX10_set_52 : CallAt mX10_set 52 0 mX10_witnessAt 1 := ⟨by decide +kernel, ⟨_, (by decide +kernel : decode cX10_set 52 = .ok (.invokevirtual 112, 3)), w_586, w_588, w_11⟩⟩
theorem kX10_set_56 : CallAt mX10_set 56 1 mX10_setOfWitness 3 := ⟨by decide +kernel, ⟨_, (by decide +kernel : decode cX10_set 56 = .ok (.invokestatic 116, 3)), w_590, w_591⟩⟩

set_option maxRecDepth 20000 in
theorem GX10_witness : Good mX10_witness := ⟨by decide +kernel, List.mem_of_getElem? (i := 596) (by decide +kernel), inX10, ⟨by decide +kernel, by decide +kernel⟩, by decide, show ∀ q ∈ tX10_witness, Snd mX10_witness q.1 q.2 from
  sndC (sd_iload_n (hi := rfl) (hd := (by decide +kernel : decode cX10_witness 0 = .ok (.iload_n 1, 1)))) (
   sndC (sd_if_eq (ht := by decide) (hd := (by decide +kernel : decode cX10_witness 4 = .ok (.ifCond .eq 21, 3)))) (
   sndC (sd_iload_n (hi := rfl) (hd := (by decide +kernel : decode cX10_witness 7 = .ok (.iload_n 2, 1)))) (
   sndC (sd_bipush (hd := (by decide +kernel : decode cX10_witness 8 = .ok (.bipush 9, 2))) (hv := by decide)) (
   sndC (sd_if_eq (ht := by decide) (hd := (by decide +kernel : decode cX10_witness 13 = .ok (.ifCond .eq 12, 3)))) (
   sndC (sd_iload_n (hi := rfl) (hd := (by decide +kernel : decode cX10_witness 16 = .ok (.iload_n 3, 1)))) (
   sndC (sd_bipush (hd := (by decide +kernel : decode cX10_witness 17 = .ok (.bipush 63, 2))) (hv := by decide)) (
   sndC (sd_if_ne (ht := by decide) (hd := (by decide +kernel : decode cX10_witness 22 = .ok (.ifCond .ne 6, 3)))) (
   sndC (sd_bipush (hd := (by decide +kernel : decode cX10_witness 25 = .ok (.bipush (-2), 2))) (hv := by decide)) (
   sndC (sd_aload_n (hi := rfl) (hd := (by decide +kernel : decode cX10_witness 28 = .ok (.aload_n 0, 1)))) (
   sndC (sd_get (C := RX10) (T := TX10) (N := 18) (hc := rfl) (hin0 := iX10) (hk := by decide) (hlink := w_524) (hd := (by decide +kernel : decode cX10_witness 29 = .ok (.getfield 130, 3)))) (
   sndC (sd_if_lt (ht := by decide) (hd := (by decide +kernel : decode cX10_witness 32 = .ok (.ifCond .lt 27, 3)))) (
   sndC (sd_aload_n (hi := rfl) (hd := (by decide +kernel : decode cX10_witness 35 = .ok (.aload_n 0, 1)))) (
   sndC (sd_get (C := RX10) (T := TX10) (N := 18) (hc := rfl) (hin0 := iX10) (hk := by decide) (hlink := w_524) (hd := (by decide +kernel : decode cX10_witness 36 = .ok (.getfield 130, 3)))) (
   sndC (sd_aload_n (hi := rfl) (hd := (by decide +kernel : decode cX10_witness 39 = .ok (.aload_n 0, 1)))) (
   sndC (sd_get (C := RX10) (T := TX10) (N := 18) (hc := rfl) (hin0 := iX10) (hk := by decide) (hlink := w_513) (hd := (by decide +kernel : decode cX10_witness 40 = .ok (.getfield 18, 3)))) (
   sndC (sd_len (hd := (by decide +kernel : decode cX10_witness 43 = .ok (.arraylength, 1)))) (
   sndC (sd_cmp_ge (ht := by decide) (hd := (by decide +kernel : decode cX10_witness 44 = .ok (.if_icmp .ge 15, 3)))) (
   sndC (sd_aload_n (hi := rfl) (hd := (by decide +kernel : decode cX10_witness 47 = .ok (.aload_n 0, 1)))) (
   sndC (sd_get (C := RX10) (T := TX10) (N := 18) (hc := rfl) (hin0 := iX10) (hk := by decide) (hlink := w_513) (hd := (by decide +kernel : decode cX10_witness 48 = .ok (.getfield 18, 3)))) (
   sndC (sd_aload_n (hi := rfl) (hd := (by decide +kernel : decode cX10_witness 51 = .ok (.aload_n 0, 1)))) (
   sndC (sd_get (C := RX10) (T := TX10) (N := 18) (hc := rfl) (hin0 := iX10) (hk := by decide) (hlink := w_524) (hd := (by decide +kernel : decode cX10_witness 52 = .ok (.getfield 130, 3)))) (
   sndC (sd_qald (hd := (by decide +kernel : decode cX10_witness 55 = .ok (.aaload, 1)))) (
   sndC (sd_ifnonnull (ht := by decide) (hd := (by decide +kernel : decode cX10_witness 56 = .ok (.ifnonnull 6, 3)))) (
   sndC (sd_bipush (hd := (by decide +kernel : decode cX10_witness 59 = .ok (.bipush (-4), 2))) (hv := by decide)) (
   sndC (sd_aload_n (hi := rfl) (hd := (by decide +kernel : decode cX10_witness 62 = .ok (.aload_n 0, 1)))) (
   sndC (sd_get (C := RX10) (T := TX10) (N := 18) (hc := rfl) (hin0 := iX10) (hk := by decide) (hlink := w_513) (hd := (by decide +kernel : decode cX10_witness 63 = .ok (.getfield 18, 3)))) (
   sndC (sd_aload_n (hi := rfl) (hd := (by decide +kernel : decode cX10_witness 66 = .ok (.aload_n 0, 1)))) (
   sndC (sd_get (C := RX10) (T := TX10) (N := 18) (hc := rfl) (hin0 := iX10) (hk := by decide) (hlink := w_524) (hd := (by decide +kernel : decode cX10_witness 67 = .ok (.getfield 130, 3)))) (
   sndC (sd_qald (hd := (by decide +kernel : decode cX10_witness 70 = .ok (.aaload, 1)))) (
   sndC (sd_iload_n (hi := rfl) (hd := (by decide +kernel : decode cX10_witness 71 = .ok (.iload_n 1, 1)))) (
   sndC (sd_iload_n (hi := rfl) (hd := (by decide +kernel : decode cX10_witness 72 = .ok (.iload_n 2, 1)))) (
   sndC (sd_iload_n (hi := rfl) (hd := (by decide +kernel : decode cX10_witness 73 = .ok (.iload_n 3, 1)))) (
   sndC (sd_aload_n (hi := rfl) (hd := (by decide +kernel : decode cX10_witness 77 = .ok (.aload_n 0, 1)))) (
   sndC (sd_dup (hd := (by decide +kernel : decode cX10_witness 78 = .ok (.dup, 1)))) (
   sndC (sd_get (C := RX10) (T := TX10) (N := 18) (hc := rfl) (hin0 := iX10) (hk := by decide) (hlink := w_524) (hd := (by decide +kernel : decode cX10_witness 79 = .ok (.getfield 130, 3)))) (
   sndC (sd_iconst (hd := (by decide +kernel : decode cX10_witness 82 = .ok (.iconst 1, 1))) (hv := by decide)) (
   sndC (sd_iadd (hd := (by decide +kernel : decode cX10_witness 83 = .ok (.iadd, 1)))) (
   sndC (sd_putI (C := RX10) (T := TX10) (N := 18) (hc := rfl) (hin0 := iX10) (hk := by decide) (hlink := w_524) (ty0 := tyX10) (hty := tyX10_ok) (hnm := nmX10) (hfin := rfl) (hi := rfl) (hd := (by decide +kernel : decode cX10_witness 84 = .ok (.putfield 130, 3)))) (
   sndC (sd_aload_n (hi := rfl) (hd := (by decide +kernel : decode cX10_witness 87 = .ok (.aload_n 0, 1)))) (
   sndC (sd_get (C := RX10) (T := TX10) (N := 18) (hc := rfl) (hin0 := iX10) (hk := by decide) (hlink := w_524) (hd := (by decide +kernel : decode cX10_witness 88 = .ok (.getfield 130, 3)))) (
   sndC (sd_iconst (hd := (by decide +kernel : decode cX10_witness 91 = .ok (.iconst 1, 1))) (hv := by decide)) (
   sndC (sd_isub (hd := (by decide +kernel : decode cX10_witness 92 = .ok (.isub, 1)))) (
   sndN)))))))))))))))))))))))))))))))))))))))))))⟩
theorem kX10_witness_1 : CallAt mX10_witness 1 1 mX1_isKind 1 := ⟨by decide +kernel, ⟨_, (by decide +kernel : decode cX10_witness 1 = .ok (.invokestatic 120, 3)), w_597, w_598⟩⟩
theorem kX10_witness_10 : CallAt mX10_witness 10 1 mX10_isWithin 2 := ⟨by decide +kernel, ⟨_, (by decide +kernel : decode cX10_witness 10 = .ok (.invokestatic 126, 3)), w_574, w_575⟩⟩
theorem kX10_witness_19 : CallAt mX10_witness 19 1 mX10_isWithin 2 := ⟨by decide +kernel, ⟨_, (by decide +kernel : decode cX10_witness 19 = .ok (.invokestatic 126, 3)), w_574, w_575⟩⟩
theorem kX10_witness_74 : CallAt mX10_witness 74 0 mX9_become 3 := ⟨by decide +kernel, ⟨_, (by decide +kernel : decode cX10_witness 74 = .ok (.invokevirtual 133, 3)), w_600, w_601, w_602⟩⟩

set_option maxRecDepth 20000 in
theorem GX10_told : Good mX10_told := ⟨by decide +kernel, List.mem_of_getElem? (i := 607) (by decide +kernel), inX10, ⟨by decide +kernel, by decide +kernel⟩, by decide, show ∀ q ∈ tX10_told, Snd mX10_told q.1 q.2 from
  sndC (sd_iload_n (hi := rfl) (hd := (by decide +kernel : decode cX10_told 0 = .ok (.iload_n 2, 1)))) (
   sndC (sd_if_ne (ht := by decide) (hd := (by decide +kernel : decode cX10_told 1 = .ok (.ifCond .ne 8, 3)))) (
   sndC (sd_aload_n (hi := rfl) (hd := (by decide +kernel : decode cX10_told 4 = .ok (.aload_n 0, 1)))) (
   sndC (sd_get (C := RX10) (T := TX10) (N := 18) (hc := rfl) (hin0 := iX10) (hk := by decide) (hlink := w_523) (hd := (by decide +kernel : decode cX10_told 5 = .ok (.getfield 71, 3)))) (
   sndC (sd_iload_n (hi := rfl) (hd := (by decide +kernel : decode cX10_told 9 = .ok (.iload_n 2, 1)))) (
   sndC (sd_iconst (hd := (by decide +kernel : decode cX10_told 10 = .ok (.iconst 1, 1))) (hv := by decide)) (
   sndC (sd_cmp_ne (ht := by decide) (hd := (by decide +kernel : decode cX10_told 11 = .ok (.if_icmp .ne 24, 3)))) (
   sndC (sd_iload_n (hi := rfl) (hd := (by decide +kernel : decode cX10_told 14 = .ok (.iload_n 1, 1)))) (
   sndC (sd_if_eq (ht := by decide) (hd := (by decide +kernel : decode cX10_told 18 = .ok (.ifCond .eq 14, 3)))) (
   sndC (sd_aload_n (hi := rfl) (hd := (by decide +kernel : decode cX10_told 21 = .ok (.aload_n 0, 1)))) (
   sndC (sd_get (C := RX10) (T := TX10) (N := 18) (hc := rfl) (hin0 := iX10) (hk := by decide) (hlink := w_511) (hd := (by decide +kernel : decode cX10_told 22 = .ok (.getfield 9, 3)))) (
   sndC (sd_iload_n (hi := rfl) (hd := (by decide +kernel : decode cX10_told 25 = .ok (.iload_n 1, 1)))) (
   sndC (sd_goto (ht := by decide) (hd := (by decide +kernel : decode cX10_told 29 = .ok (.goto 5, 3)))) (
   sndC (sd_bipush (hd := (by decide +kernel : decode cX10_told 32 = .ok (.bipush (-2), 2))) (hv := by decide)) (
   sndC (sd_aload_n (hi := rfl) (hd := (by decide +kernel : decode cX10_told 35 = .ok (.aload_n 0, 1)))) (
   sndC (sd_iload_n (hi := rfl) (hd := (by decide +kernel : decode cX10_told 36 = .ok (.iload_n 1, 1)))) (
   sndC (sd_astore_n (hi := rfl) (hd := (by decide +kernel : decode cX10_told 40 = .ok (.astore_n 3, 1)))) (
   sndC (sd_aload_n (hi := rfl) (hd := (by decide +kernel : decode cX10_told 41 = .ok (.aload_n 3, 1)))) (
   sndC (sd_ifnonnull (ht := by decide) (hd := (by decide +kernel : decode cX10_told 42 = .ok (.ifnonnull 6, 3)))) (
   sndC (sd_bipush (hd := (by decide +kernel : decode cX10_told 45 = .ok (.bipush (-2), 2))) (hv := by decide)) (
   sndC (sd_iload_n (hi := rfl) (hd := (by decide +kernel : decode cX10_told 48 = .ok (.iload_n 2, 1)))) (
   sndC (sd_tsw (hd := (by decide +kernel : decode cX10_told 49 = .ok (.tableswitch 61 2 6 #[35, 40, 45, 50, 55], 35))) (hok := by decide +kernel)) (
   sndC (sd_aload_n (hi := rfl) (hd := (by decide +kernel : decode cX10_told 84 = .ok (.aload_n 3, 1)))) (
   sndC (sd_get (C := RX9) (T := TX9) (N := 10) (hc := rfl) (hin0 := iX9) (hk := by decide) (hlink := w_279) (hd := (by decide +kernel : decode cX10_told 85 = .ok (.getfield 145, 3)))) (
   sndC (sd_aload_n (hi := rfl) (hd := (by decide +kernel : decode cX10_told 89 = .ok (.aload_n 3, 1)))) (
   sndC (sd_get (C := RX9) (T := TX9) (N := 10) (hc := rfl) (hin0 := iX9) (hk := by decide) (hlink := w_282) (hd := (by decide +kernel : decode cX10_told 90 = .ok (.getfield 148, 3)))) (
   sndC (sd_aload_n (hi := rfl) (hd := (by decide +kernel : decode cX10_told 94 = .ok (.aload_n 3, 1)))) (
   sndC (sd_get (C := RX9) (T := TX9) (N := 10) (hc := rfl) (hin0 := iX9) (hk := by decide) (hlink := w_285) (hd := (by decide +kernel : decode cX10_told 95 = .ok (.getfield 151, 3)))) (
   sndC (sd_aload_n (hi := rfl) (hd := (by decide +kernel : decode cX10_told 99 = .ok (.aload_n 3, 1)))) (
   sndC (sd_get (C := RX9) (T := TX9) (N := 10) (hc := rfl) (hin0 := iX9) (hk := by decide) (hlink := w_276) (hd := (by decide +kernel : decode cX10_told 100 = .ok (.getfield 154, 3)))) (
   sndC (sd_aload_n (hi := rfl) (hd := (by decide +kernel : decode cX10_told 104 = .ok (.aload_n 0, 1)))) (
   sndC (sd_aload_n (hi := rfl) (hd := (by decide +kernel : decode cX10_told 105 = .ok (.aload_n 3, 1)))) (
   sndC (sd_iload_n (hi := rfl) (hd := (by decide +kernel : decode cX10_told 110 = .ok (.iload_n 2, 1)))) (
   sndC (sd_bipush (hd := (by decide +kernel : decode cX10_told 111 = .ok (.bipush 10, 2))) (hv := by decide)) (
   sndC (sd_cmp_lt (ht := by decide) (hd := (by decide +kernel : decode cX10_told 113 = .ok (.if_icmp .lt 21, 3)))) (
   sndC (sd_iload_n (hi := rfl) (hd := (by decide +kernel : decode cX10_told 116 = .ok (.iload_n 2, 1)))) (
   sndC (sd_bipush (hd := (by decide +kernel : decode cX10_told 117 = .ok (.bipush 16, 2))) (hv := by decide)) (
   sndC (sd_cmp_ge (ht := by decide) (hd := (by decide +kernel : decode cX10_told 119 = .ok (.if_icmp .ge 15, 3)))) (
   sndC (sd_aload_n (hi := rfl) (hd := (by decide +kernel : decode cX10_told 122 = .ok (.aload_n 0, 1)))) (
   sndC (sd_aload_n (hi := rfl) (hd := (by decide +kernel : decode cX10_told 123 = .ok (.aload_n 3, 1)))) (
   sndC (sd_iload_n (hi := rfl) (hd := (by decide +kernel : decode cX10_told 124 = .ok (.iload_n 2, 1)))) (
   sndC (sd_bipush (hd := (by decide +kernel : decode cX10_told 125 = .ok (.bipush 10, 2))) (hv := by decide)) (
   sndC (sd_isub (hd := (by decide +kernel : decode cX10_told 127 = .ok (.isub, 1)))) (
   sndC (sd_goto (ht := by decide) (hd := (by decide +kernel : decode cX10_told 131 = .ok (.goto 5, 3)))) (
   sndC (sd_bipush (hd := (by decide +kernel : decode cX10_told 134 = .ok (.bipush (-2), 2))) (hv := by decide)) (
   sndN)))))))))))))))))))))))))))))))))))))))))))))⟩
theorem kX10_told_15 : CallAt mX10_told 15 1 mX10_isStep 1 := ⟨by decide +kernel, ⟨_, (by decide +kernel : decode cX10_told 15 = .ok (.invokestatic 137, 3)), w_581, w_582⟩⟩
theorem kX10_told_26 : CallAt mX10_told 26 1 mX5_at 2 := ⟨by decide +kernel, ⟨_, (by decide +kernel : decode cX10_told 26 = .ok (.invokestatic 140, 3)), w_584, w_391⟩⟩
theorem kX10_told_37 : CallAt mX10_told 37 0 mX10_witnessAt 1 := ⟨by decide +kernel, ⟨_, (by decide +kernel : decode cX10_told 37 = .ok (.invokevirtual 112, 3)), w_586, w_588, w_11⟩⟩
theorem kX10_told_106 : CallAt mX10_told 106 0 mX10_priceOf 1 := ⟨by decide +kernel, ⟨_, (by decide +kernel : decode cX10_told 106 = .ok (.invokevirtual 157, 3)), w_608, w_610, w_12⟩⟩
theorem kX10_told_128 : CallAt mX10_told 128 0 mX10_saidBy 2 := ⟨by decide +kernel, ⟨_, (by decide +kernel : decode cX10_told 128 = .ok (.invokevirtual 161, 3)), w_648, w_650, w_13⟩⟩

set_option maxRecDepth 20000 in
theorem GX10_feed : Good mX10_feed := ⟨by decide +kernel, List.mem_of_getElem? (i := 666) (by decide +kernel), inX10, ⟨by decide +kernel, by decide +kernel⟩, by decide, show ∀ q ∈ tX10_feed, Snd mX10_feed q.1 q.2 from
  sndC (sd_iload_n (hi := rfl) (hd := (by decide +kernel : decode cX10_feed 0 = .ok (.iload_n 1, 1)))) (
   sndC (sd_sipush (hd := (by decide +kernel : decode cX10_feed 1 = .ok (.sipush 255, 3))) (hv := by decide)) (
   sndC (sd_if_ne (ht := by decide) (hd := (by decide +kernel : decode cX10_feed 7 = .ok (.ifCond .ne 6, 3)))) (
   sndC (sd_bipush (hd := (by decide +kernel : decode cX10_feed 10 = .ok (.bipush (-2), 2))) (hv := by decide)) (
   sndC (sd_aload_n (hi := rfl) (hd := (by decide +kernel : decode cX10_feed 13 = .ok (.aload_n 0, 1)))) (
   sndC (sd_get (C := RX10) (T := TX10) (N := 18) (hc := rfl) (hin0 := iX10) (hk := by decide) (hlink := w_526) (hd := (by decide +kernel : decode cX10_feed 14 = .ok (.getfield 165, 3)))) (
   sndC (sd_sipush (hd := (by decide +kernel : decode cX10_feed 17 = .ok (.sipush 160, 3))) (hv := by decide)) (
   sndC (sd_cmp_lt (ht := by decide) (hd := (by decide +kernel : decode cX10_feed 20 = .ok (.if_icmp .lt 6, 3)))) (
   sndC (sd_bipush (hd := (by decide +kernel : decode cX10_feed 23 = .ok (.bipush (-4), 2))) (hv := by decide)) (
   sndC (sd_aload_n (hi := rfl) (hd := (by decide +kernel : decode cX10_feed 26 = .ok (.aload_n 0, 1)))) (
   sndC (sd_get (C := RX10) (T := TX10) (N := 18) (hc := rfl) (hin0 := iX10) (hk := by decide) (hlink := w_515) (hd := (by decide +kernel : decode cX10_feed 27 = .ok (.getfield 28, 3)))) (
   sndC (sd_aload_n (hi := rfl) (hd := (by decide +kernel : decode cX10_feed 30 = .ok (.aload_n 0, 1)))) (
   sndC (sd_get (C := RX10) (T := TX10) (N := 18) (hc := rfl) (hin0 := iX10) (hk := by decide) (hlink := w_526) (hd := (by decide +kernel : decode cX10_feed 31 = .ok (.getfield 165, 3)))) (
   sndC (sd_iload_n (hi := rfl) (hd := (by decide +kernel : decode cX10_feed 34 = .ok (.iload_n 1, 1)))) (
   sndC (sd_aload_n (hi := rfl) (hd := (by decide +kernel : decode cX10_feed 38 = .ok (.aload_n 0, 1)))) (
   sndC (sd_dup (hd := (by decide +kernel : decode cX10_feed 39 = .ok (.dup, 1)))) (
   sndC (sd_get (C := RX10) (T := TX10) (N := 18) (hc := rfl) (hin0 := iX10) (hk := by decide) (hlink := w_526) (hd := (by decide +kernel : decode cX10_feed 40 = .ok (.getfield 165, 3)))) (
   sndC (sd_iconst (hd := (by decide +kernel : decode cX10_feed 43 = .ok (.iconst 1, 1))) (hv := by decide)) (
   sndC (sd_iadd (hd := (by decide +kernel : decode cX10_feed 44 = .ok (.iadd, 1)))) (
   sndC (sd_putI (C := RX10) (T := TX10) (N := 18) (hc := rfl) (hin0 := iX10) (hk := by decide) (hlink := w_526) (ty0 := tyX10) (hty := tyX10_ok) (hnm := nmX10) (hfin := rfl) (hi := rfl) (hd := (by decide +kernel : decode cX10_feed 45 = .ok (.putfield 165, 3)))) (
   sndC (sd_aload_n (hi := rfl) (hd := (by decide +kernel : decode cX10_feed 48 = .ok (.aload_n 0, 1)))) (
   sndC (sd_get (C := RX10) (T := TX10) (N := 18) (hc := rfl) (hin0 := iX10) (hk := by decide) (hlink := w_526) (hd := (by decide +kernel : decode cX10_feed 49 = .ok (.getfield 165, 3)))) (
   sndN))))))))))))))))))))))⟩
theorem kX10_feed_4 : CallAt mX10_feed 4 1 mX10_isWithin 2 := ⟨by decide +kernel, ⟨_, (by decide +kernel : decode cX10_feed 4 = .ok (.invokestatic 126, 3)), w_574, w_575⟩⟩
theorem kX10_feed_35 : CallAt mX10_feed 35 1 mX5_put 3 := ⟨by decide +kernel, ⟨_, (by decide +kernel : decode cX10_feed 35 = .ok (.invokestatic 168, 3)), w_585, w_432⟩⟩

set_option maxRecDepth 20000 in
theorem GX10_text : Good mX10_text := ⟨by decide +kernel, List.mem_of_getElem? (i := 670) (by decide +kernel), inX10, ⟨by decide +kernel, by decide +kernel⟩, by decide, show ∀ q ∈ tX10_text, Snd mX10_text q.1 q.2 from
  sndC (sd_aload_n (hi := rfl) (hd := (by decide +kernel : decode cX10_text 0 = .ok (.aload_n 0, 1)))) (
   sndC (sd_get (C := RX10) (T := TX10) (N := 18) (hc := rfl) (hin0 := iX10) (hk := by decide) (hlink := w_525) (hd := (by decide +kernel : decode cX10_text 1 = .ok (.getfield 75, 3)))) (
   sndC (sd_if_lt (ht := by decide) (hd := (by decide +kernel : decode cX10_text 4 = .ok (.ifCond .lt 15, 3)))) (
   sndC (sd_aload_n (hi := rfl) (hd := (by decide +kernel : decode cX10_text 7 = .ok (.aload_n 0, 1)))) (
   sndC (sd_get (C := RX10) (T := TX10) (N := 18) (hc := rfl) (hin0 := iX10) (hk := by decide) (hlink := w_525) (hd := (by decide +kernel : decode cX10_text 8 = .ok (.getfield 75, 3)))) (
   sndC (sd_aload_n (hi := rfl) (hd := (by decide +kernel : decode cX10_text 11 = .ok (.aload_n 0, 1)))) (
   sndC (sd_get (C := RX10) (T := TX10) (N := 18) (hc := rfl) (hin0 := iX10) (hk := by decide) (hlink := w_514) (hd := (by decide +kernel : decode cX10_text 12 = .ok (.getfield 24, 3)))) (
   sndC (sd_len (hd := (by decide +kernel : decode cX10_text 15 = .ok (.arraylength, 1)))) (
   sndC (sd_cmp_lt (ht := by decide) (hd := (by decide +kernel : decode cX10_text 16 = .ok (.if_icmp .lt 6, 3)))) (
   sndC (sd_bipush (hd := (by decide +kernel : decode cX10_text 19 = .ok (.bipush (-4), 2))) (hv := by decide)) (
   sndC (sd_aload_n (hi := rfl) (hd := (by decide +kernel : decode cX10_text 22 = .ok (.aload_n 0, 1)))) (
   sndC (sd_get (C := RX10) (T := TX10) (N := 18) (hc := rfl) (hin0 := iX10) (hk := by decide) (hlink := w_517) (hd := (by decide +kernel : decode cX10_text 23 = .ok (.getfield 40, 3)))) (
   sndC (sd_aload_n (hi := rfl) (hd := (by decide +kernel : decode cX10_text 26 = .ok (.aload_n 0, 1)))) (
   sndC (sd_get (C := RX10) (T := TX10) (N := 18) (hc := rfl) (hin0 := iX10) (hk := by decide) (hlink := w_515) (hd := (by decide +kernel : decode cX10_text 27 = .ok (.getfield 28, 3)))) (
   sndC (sd_aload_n (hi := rfl) (hd := (by decide +kernel : decode cX10_text 30 = .ok (.aload_n 0, 1)))) (
   sndC (sd_get (C := RX10) (T := TX10) (N := 18) (hc := rfl) (hin0 := iX10) (hk := by decide) (hlink := w_526) (hd := (by decide +kernel : decode cX10_text 31 = .ok (.getfield 165, 3)))) (
   sndC (sd_istore_n (hi := rfl) (hd := (by decide +kernel : decode cX10_text 37 = .ok (.istore_n 1, 1)))) (
   sndC (sd_aload_n (hi := rfl) (hd := (by decide +kernel : decode cX10_text 38 = .ok (.aload_n 0, 1)))) (
   sndC (sd_iconst (hd := (by decide +kernel : decode cX10_text 39 = .ok (.iconst 0, 1))) (hv := by decide)) (
   sndC (sd_putI (C := RX10) (T := TX10) (N := 18) (hc := rfl) (hin0 := iX10) (hk := by decide) (hlink := w_526) (ty0 := tyX10) (hty := tyX10_ok) (hnm := nmX10) (hfin := rfl) (hi := rfl) (hd := (by decide +kernel : decode cX10_text 40 = .ok (.putfield 165, 3)))) (
   sndC (sd_iload_n (hi := rfl) (hd := (by decide +kernel : decode cX10_text 43 = .ok (.iload_n 1, 1)))) (
   sndC (sd_iconst (hd := (by decide +kernel : decode cX10_text 44 = .ok (.iconst (-1), 1))) (hv := by decide)) (
   sndC (sd_cmp_eq (ht := by decide) (hd := (by decide +kernel : decode cX10_text 45 = .ok (.if_icmp .eq 8, 3)))) (
   sndC (sd_bipush (hd := (by decide +kernel : decode cX10_text 48 = .ok (.bipush (-100), 2))) (hv := by decide)) (
   sndC (sd_iload_n (hi := rfl) (hd := (by decide +kernel : decode cX10_text 50 = .ok (.iload_n 1, 1)))) (
   sndC (sd_isub (hd := (by decide +kernel : decode cX10_text 51 = .ok (.isub, 1)))) (
   sndC (sd_aload_n (hi := rfl) (hd := (by decide +kernel : decode cX10_text 53 = .ok (.aload_n 0, 1)))) (
   sndC (sd_get (C := RX10) (T := TX10) (N := 18) (hc := rfl) (hin0 := iX10) (hk := by decide) (hlink := w_514) (hd := (by decide +kernel : decode cX10_text 54 = .ok (.getfield 24, 3)))) (
   sndC (sd_aload_n (hi := rfl) (hd := (by decide +kernel : decode cX10_text 57 = .ok (.aload_n 0, 1)))) (
   sndC (sd_get (C := RX10) (T := TX10) (N := 18) (hc := rfl) (hin0 := iX10) (hk := by decide) (hlink := w_525) (hd := (by decide +kernel : decode cX10_text 58 = .ok (.getfield 75, 3)))) (
   sndC (sd_aload_n (hi := rfl) (hd := (by decide +kernel : decode cX10_text 61 = .ok (.aload_n 0, 1)))) (
   sndC (sd_get (C := RX10) (T := TX10) (N := 18) (hc := rfl) (hin0 := iX10) (hk := by decide) (hlink := w_517) (hd := (by decide +kernel : decode cX10_text 62 = .ok (.getfield 40, 3)))) (
   sndC (sd_qast (hd := (by decide +kernel : decode cX10_text 68 = .ok (.aastore, 1)))) (
   sndC (sd_aload_n (hi := rfl) (hd := (by decide +kernel : decode cX10_text 69 = .ok (.aload_n 0, 1)))) (
   sndC (sd_dup (hd := (by decide +kernel : decode cX10_text 70 = .ok (.dup, 1)))) (
   sndC (sd_get (C := RX10) (T := TX10) (N := 18) (hc := rfl) (hin0 := iX10) (hk := by decide) (hlink := w_525) (hd := (by decide +kernel : decode cX10_text 71 = .ok (.getfield 75, 3)))) (
   sndC (sd_iconst (hd := (by decide +kernel : decode cX10_text 74 = .ok (.iconst 1, 1))) (hv := by decide)) (
   sndC (sd_iadd (hd := (by decide +kernel : decode cX10_text 75 = .ok (.iadd, 1)))) (
   sndC (sd_putI (C := RX10) (T := TX10) (N := 18) (hc := rfl) (hin0 := iX10) (hk := by decide) (hlink := w_525) (ty0 := tyX10) (hty := tyX10_ok) (hnm := nmX10) (hfin := rfl) (hi := rfl) (hd := (by decide +kernel : decode cX10_text 76 = .ok (.putfield 75, 3)))) (
   sndC (sd_aload_n (hi := rfl) (hd := (by decide +kernel : decode cX10_text 79 = .ok (.aload_n 0, 1)))) (
   sndC (sd_get (C := RX10) (T := TX10) (N := 18) (hc := rfl) (hin0 := iX10) (hk := by decide) (hlink := w_525) (hd := (by decide +kernel : decode cX10_text 80 = .ok (.getfield 75, 3)))) (
   sndC (sd_iconst (hd := (by decide +kernel : decode cX10_text 83 = .ok (.iconst 1, 1))) (hv := by decide)) (
   sndC (sd_isub (hd := (by decide +kernel : decode cX10_text 84 = .ok (.isub, 1)))) (
   sndN)))))))))))))))))))))))))))))))))))))))))))⟩
theorem kX10_text_34 : CallAt mX10_text 34 0 mX4_faultOf 2 := ⟨by decide +kernel, ⟨_, (by decide +kernel : decode cX10_text 34 = .ok (.invokevirtual 92, 3)), w_379, w_380, w_381⟩⟩
theorem kX10_text_65 : CallAt mX10_text 65 0 mX4_textRead 0 := ⟨by decide +kernel, ⟨_, (by decide +kernel : decode cX10_text 65 = .ok (.invokevirtual 96, 3)), w_472, w_473, w_474⟩⟩

set_option maxRecDepth 20000 in
theorem GX10_force : Good mX10_force := ⟨by decide +kernel, List.mem_of_getElem? (i := 674) (by decide +kernel), inX10, ⟨by decide +kernel, by decide +kernel⟩, by decide, show ∀ q ∈ tX10_force, Snd mX10_force q.1 q.2 from
  sndC (sd_aload_n (hi := rfl) (hd := (by decide +kernel : decode cX10_force 0 = .ok (.aload_n 0, 1)))) (
   sndC (sd_iload_n (hi := rfl) (hd := (by decide +kernel : decode cX10_force 1 = .ok (.iload_n 1, 1)))) (
   sndC (sd_astore_n (hi := rfl) (hd := (by decide +kernel : decode cX10_force 5 = .ok (.astore_n 2, 1)))) (
   sndC (sd_aload_n (hi := rfl) (hd := (by decide +kernel : decode cX10_force 6 = .ok (.aload_n 2, 1)))) (
   sndC (sd_ifnonnull (ht := by decide) (hd := (by decide +kernel : decode cX10_force 7 = .ok (.ifnonnull 6, 3)))) (
   sndC (sd_bipush (hd := (by decide +kernel : decode cX10_force 10 = .ok (.bipush (-2), 2))) (hv := by decide)) (
   sndC (sd_aload_n (hi := rfl) (hd := (by decide +kernel : decode cX10_force 13 = .ok (.aload_n 0, 1)))) (
   sndC (sd_get (C := RX10) (T := TX10) (N := 18) (hc := rfl) (hin0 := iX10) (hk := by decide) (hlink := w_527) (hd := (by decide +kernel : decode cX10_force 14 = .ok (.getfield 176, 3)))) (
   sndC (sd_istore_n (hi := rfl) (hd := (by decide +kernel : decode cX10_force 17 = .ok (.istore_n 3, 1)))) (
   sndC (sd_aload_n (hi := rfl) (hd := (by decide +kernel : decode cX10_force 18 = .ok (.aload_n 0, 1)))) (
   sndC (sd_aload_n (hi := rfl) (hd := (by decide +kernel : decode cX10_force 19 = .ok (.aload_n 2, 1)))) (
   sndC (sd_putA (C := RX10) (T := TX10) (N := 18) (hc := rfl) (hin0 := iX10) (hk := by decide) (hlink := w_528) (ty0 := tyX10) (hty := tyX10_ok) (hnm := nmX10) (hfin := rfl) (hi := .inl ⟨_, rfl⟩) (hd := (by decide +kernel : decode cX10_force 20 = .ok (.putfield 100, 3)))) (
   sndC (sd_aload_n (hi := rfl) (hd := (by decide +kernel : decode cX10_force 23 = .ok (.aload_n 0, 1)))) (
   sndC (sd_iload_n (hi := rfl) (hd := (by decide +kernel : decode cX10_force 24 = .ok (.iload_n 1, 1)))) (
   sndC (sd_putI (C := RX10) (T := TX10) (N := 18) (hc := rfl) (hin0 := iX10) (hk := by decide) (hlink := w_527) (ty0 := tyX10) (hty := tyX10_ok) (hnm := nmX10) (hfin := rfl) (hi := rfl) (hd := (by decide +kernel : decode cX10_force 25 = .ok (.putfield 176, 3)))) (
   sndC (sd_iload_n (hi := rfl) (hd := (by decide +kernel : decode cX10_force 28 = .ok (.iload_n 3, 1)))) (
   sndN))))))))))))))))⟩
theorem kX10_force_2 : CallAt mX10_force 2 0 mX10_textAt 1 := ⟨by decide +kernel, ⟨_, (by decide +kernel : decode cX10_force 2 = .ok (.invokevirtual 172, 3)), w_675, w_677, w_15⟩⟩

set_option maxRecDepth 20000 in
theorem GX10_all : Good mX10_all := ⟨by decide +kernel, List.mem_of_getElem? (i := 682) (by decide +kernel), inX10, ⟨by decide +kernel, by decide +kernel⟩, by decide, show ∀ q ∈ tX10_all, Snd mX10_all q.1 q.2 from
  sndC (sd_iload_n (hi := rfl) (hd := (by decide +kernel : decode cX10_all 0 = .ok (.iload_n 1, 1)))) (
   sndC (sd_tsw (hd := (by decide +kernel : decode cX10_all 1 = .ok (.tableswitch 119 0 5 #[39, 59, 79, 102, 108, 114], 39))) (hok := by decide +kernel)) (
   sndC (sd_aload_n (hi := rfl) (hd := (by decide +kernel : decode cX10_all 40 = .ok (.aload_n 0, 1)))) (
   sndC (sd_aload_n (hi := rfl) (hd := (by decide +kernel : decode cX10_all 41 = .ok (.aload_n 0, 1)))) (
   sndC (sd_get (C := RX10) (T := TX10) (N := 18) (hc := rfl) (hin0 := iX10) (hk := by decide) (hlink := w_511) (hd := (by decide +kernel : decode cX10_all 42 = .ok (.getfield 9, 3)))) (
   sndC (sd_aload_n (hi := rfl) (hd := (by decide +kernel : decode cX10_all 48 = .ok (.aload_n 0, 1)))) (
   sndC (sd_get (C := RX10) (T := TX10) (N := 18) (hc := rfl) (hin0 := iX10) (hk := by decide) (hlink := w_519) (hd := (by decide +kernel : decode cX10_all 49 = .ok (.getfield 54, 3)))) (
   sndC (sd_aload_n (hi := rfl) (hd := (by decide +kernel : decode cX10_all 52 = .ok (.aload_n 0, 1)))) (
   sndC (sd_aload_n (hi := rfl) (hd := (by decide +kernel : decode cX10_all 60 = .ok (.aload_n 0, 1)))) (
   sndC (sd_aload_n (hi := rfl) (hd := (by decide +kernel : decode cX10_all 61 = .ok (.aload_n 0, 1)))) (
   sndC (sd_get (C := RX10) (T := TX10) (N := 18) (hc := rfl) (hin0 := iX10) (hk := by decide) (hlink := w_511) (hd := (by decide +kernel : decode cX10_all 62 = .ok (.getfield 9, 3)))) (
   sndC (sd_aload_n (hi := rfl) (hd := (by decide +kernel : decode cX10_all 68 = .ok (.aload_n 0, 1)))) (
   sndC (sd_get (C := RX10) (T := TX10) (N := 18) (hc := rfl) (hin0 := iX10) (hk := by decide) (hlink := w_519) (hd := (by decide +kernel : decode cX10_all 69 = .ok (.getfield 54, 3)))) (
   sndC (sd_aload_n (hi := rfl) (hd := (by decide +kernel : decode cX10_all 72 = .ok (.aload_n 0, 1)))) (
   sndC (sd_aload_n (hi := rfl) (hd := (by decide +kernel : decode cX10_all 80 = .ok (.aload_n 0, 1)))) (
   sndC (sd_aload_n (hi := rfl) (hd := (by decide +kernel : decode cX10_all 81 = .ok (.aload_n 0, 1)))) (
   sndC (sd_get (C := RX10) (T := TX10) (N := 18) (hc := rfl) (hin0 := iX10) (hk := by decide) (hlink := w_511) (hd := (by decide +kernel : decode cX10_all 82 = .ok (.getfield 9, 3)))) (
   sndC (sd_aload_n (hi := rfl) (hd := (by decide +kernel : decode cX10_all 88 = .ok (.aload_n 0, 1)))) (
   sndC (sd_get (C := RX10) (T := TX10) (N := 18) (hc := rfl) (hin0 := iX10) (hk := by decide) (hlink := w_519) (hd := (by decide +kernel : decode cX10_all 89 = .ok (.getfield 54, 3)))) (
   sndC (sd_aload_n (hi := rfl) (hd := (by decide +kernel : decode cX10_all 92 = .ok (.aload_n 0, 1)))) (
   sndC (sd_aload_n (hi := rfl) (hd := (by decide +kernel : decode cX10_all 103 = .ok (.aload_n 0, 1)))) (
   sndC (sd_iconst (hd := (by decide +kernel : decode cX10_all 104 = .ok (.iconst 0, 1))) (hv := by decide)) (
   sndC (sd_aload_n (hi := rfl) (hd := (by decide +kernel : decode cX10_all 109 = .ok (.aload_n 0, 1)))) (
   sndC (sd_iconst (hd := (by decide +kernel : decode cX10_all 110 = .ok (.iconst 2, 1))) (hv := by decide)) (
   sndC (sd_aload_n (hi := rfl) (hd := (by decide +kernel : decode cX10_all 115 = .ok (.aload_n 0, 1)))) (
   sndC (sd_ldc (hw := w_772) (hd := (by decide +kernel : decode cX10_all 120 = .ok (.ldc 203, 2)))) (
   sndN))))))))))))))))))))))))))⟩
theorem kX10_all_45 : CallAt mX10_all 45 0 mX10_compareWith 1 := ⟨by decide +kernel, ⟨_, (by decide +kernel : decode cX10_all 45 = .ok (.invokevirtual 179, 3)), w_683, w_685, w_16⟩⟩
theorem kX10_all_53 : CallAt mX10_all 53 0 mX10_sentBits 0 := ⟨by decide +kernel, ⟨_, (by decide +kernel : decode cX10_all 53 = .ok (.invokevirtual 183, 3)), w_723, w_725, w_17⟩⟩
theorem kX10_all_56 : CallAt mX10_all 56 0 mX2_fitting 1 := ⟨by decide +kernel, ⟨_, (by decide +kernel : decode cX10_all 56 = .ok (.invokevirtual 186, 3)), w_727, w_728, w_729⟩⟩
theorem kX10_all_65 : CallAt mX10_all 65 0 mX10_compareWith 1 := ⟨by decide +kernel, ⟨_, (by decide +kernel : decode cX10_all 65 = .ok (.invokevirtual 179, 3)), w_683, w_685, w_16⟩⟩
theorem kX10_all_73 : CallAt mX10_all 73 0 mX10_sentBits 0 := ⟨by decide +kernel, ⟨_, (by decide +kernel : decode cX10_all 73 = .ok (.invokevirtual 183, 3)), w_723, w_725, w_17⟩⟩
theorem kX10_all_76 : CallAt mX10_all 76 0 mX2_sureSteps 1 := ⟨by decide +kernel, ⟨_, (by decide +kernel : decode cX10_all 76 = .ok (.invokevirtual 189, 3)), w_745, w_746, w_747⟩⟩
theorem kX10_all_85 : CallAt mX10_all 85 0 mX10_compareWith 1 := ⟨by decide +kernel, ⟨_, (by decide +kernel : decode cX10_all 85 = .ok (.invokevirtual 179, 3)), w_683, w_685, w_16⟩⟩
theorem kX10_all_93 : CallAt mX10_all 93 0 mX10_sentBits 0 := ⟨by decide +kernel, ⟨_, (by decide +kernel : decode cX10_all 93 = .ok (.invokevirtual 183, 3)), w_723, w_725, w_17⟩⟩
theorem kX10_all_96 : CallAt mX10_all 96 0 mX2_sureSteps 1 := ⟨by decide +kernel, ⟨_, (by decide +kernel : decode cX10_all 96 = .ok (.invokevirtual 189, 3)), w_745, w_746, w_747⟩⟩
theorem kX10_all_99 : CallAt mX10_all 99 1 mJ6_bitCount_0f7a4 1 := ⟨by decide +kernel, ⟨_, (by decide +kernel : decode cX10_all 99 = .ok (.invokestatic 192, 3)), w_755, w_617⟩⟩
theorem kX10_all_105 : CallAt mX10_all 105 0 mX10_weightOfLife 1 := ⟨by decide +kernel, ⟨_, (by decide +kernel : decode cX10_all 105 = .ok (.invokevirtual 197, 3)), w_756, w_758, w_21⟩⟩
theorem kX10_all_111 : CallAt mX10_all 111 0 mX10_weightOfLife 1 := ⟨by decide +kernel, ⟨_, (by decide +kernel : decode cX10_all 111 = .ok (.invokevirtual 197, 3)), w_756, w_758, w_21⟩⟩
theorem kX10_all_116 : CallAt mX10_all 116 0 mX10_priceOfSent 0 := ⟨by decide +kernel, ⟨_, (by decide +kernel : decode cX10_all 116 = .ok (.invokevirtual 200, 3)), w_760, w_762, w_22⟩⟩

set_option maxRecDepth 20000 in
theorem GX10_canBe : Good mX10_canBe := ⟨by decide +kernel, List.mem_of_getElem? (i := 776) (by decide +kernel), inX10, ⟨by decide +kernel, by decide +kernel⟩, by decide, show ∀ q ∈ tX10_canBe, Snd mX10_canBe q.1 q.2 from
  sndC (sd_iload_n (hi := rfl) (hd := (by decide +kernel : decode cX10_canBe 0 = .ok (.iload_n 1, 1)))) (
   sndC (sd_if_ne (ht := by decide) (hd := (by decide +kernel : decode cX10_canBe 4 = .ok (.ifCond .ne 6, 3)))) (
   sndC (sd_bipush (hd := (by decide +kernel : decode cX10_canBe 7 = .ok (.bipush (-2), 2))) (hv := by decide)) (
   sndC (sd_aload_n (hi := rfl) (hd := (by decide +kernel : decode cX10_canBe 10 = .ok (.aload_n 0, 1)))) (
   sndC (sd_aload_n (hi := rfl) (hd := (by decide +kernel : decode cX10_canBe 11 = .ok (.aload_n 0, 1)))) (
   sndC (sd_get (C := RX10) (T := TX10) (N := 18) (hc := rfl) (hin0 := iX10) (hk := by decide) (hlink := w_511) (hd := (by decide +kernel : decode cX10_canBe 12 = .ok (.getfield 9, 3)))) (
   sndC (sd_aload_n (hi := rfl) (hd := (by decide +kernel : decode cX10_canBe 18 = .ok (.aload_n 0, 1)))) (
   sndC (sd_get (C := RX10) (T := TX10) (N := 18) (hc := rfl) (hin0 := iX10) (hk := by decide) (hlink := w_519) (hd := (by decide +kernel : decode cX10_canBe 19 = .ok (.getfield 54, 3)))) (
   sndC (sd_aload_n (hi := rfl) (hd := (by decide +kernel : decode cX10_canBe 22 = .ok (.aload_n 0, 1)))) (
   sndC (sd_iload_n (hi := rfl) (hd := (by decide +kernel : decode cX10_canBe 26 = .ok (.iload_n 1, 1)))) (
   sndN))))))))))⟩
theorem kX10_canBe_1 : CallAt mX10_canBe 1 1 mX10_isStep 1 := ⟨by decide +kernel, ⟨_, (by decide +kernel : decode cX10_canBe 1 = .ok (.invokestatic 137, 3)), w_581, w_582⟩⟩
theorem kX10_canBe_15 : CallAt mX10_canBe 15 0 mX10_compareWith 1 := ⟨by decide +kernel, ⟨_, (by decide +kernel : decode cX10_canBe 15 = .ok (.invokevirtual 179, 3)), w_683, w_685, w_16⟩⟩
theorem kX10_canBe_23 : CallAt mX10_canBe 23 0 mX10_sentBits 0 := ⟨by decide +kernel, ⟨_, (by decide +kernel : decode cX10_canBe 23 = .ok (.invokevirtual 183, 3)), w_723, w_725, w_17⟩⟩
theorem kX10_canBe_27 : CallAt mX10_canBe 27 0 mX2_doingsAt 2 := ⟨by decide +kernel, ⟨_, (by decide +kernel : decode cX10_canBe 27 = .ok (.invokevirtual 204, 3)), w_777, w_778, w_779⟩⟩

set_option maxRecDepth 20000 in
theorem GX10_fit : Good mX10_fit := ⟨by decide +kernel, List.mem_of_getElem? (i := 784) (by decide +kernel), inX10, ⟨by decide +kernel, by decide +kernel⟩, by decide, show ∀ q ∈ tX10_fit, Snd mX10_fit q.1 q.2 from
  sndC (sd_iload_n (hi := rfl) (hd := (by decide +kernel : decode cX10_fit 0 = .ok (.iload_n 1, 1)))) (
   sndC (sd_if_ge (ht := by decide) (hd := (by decide +kernel : decode cX10_fit 1 = .ok (.ifCond .ge 6, 3)))) (
   sndC (sd_bipush (hd := (by decide +kernel : decode cX10_fit 4 = .ok (.bipush (-2), 2))) (hv := by decide)) (
   sndC (sd_aload_n (hi := rfl) (hd := (by decide +kernel : decode cX10_fit 7 = .ok (.aload_n 0, 1)))) (
   sndC (sd_aload_n (hi := rfl) (hd := (by decide +kernel : decode cX10_fit 8 = .ok (.aload_n 0, 1)))) (
   sndC (sd_get (C := RX10) (T := TX10) (N := 18) (hc := rfl) (hin0 := iX10) (hk := by decide) (hlink := w_511) (hd := (by decide +kernel : decode cX10_fit 9 = .ok (.getfield 9, 3)))) (
   sndC (sd_aload_n (hi := rfl) (hd := (by decide +kernel : decode cX10_fit 15 = .ok (.aload_n 0, 1)))) (
   sndC (sd_get (C := RX10) (T := TX10) (N := 18) (hc := rfl) (hin0 := iX10) (hk := by decide) (hlink := w_519) (hd := (by decide +kernel : decode cX10_fit 16 = .ok (.getfield 54, 3)))) (
   sndC (sd_aload_n (hi := rfl) (hd := (by decide +kernel : decode cX10_fit 19 = .ok (.aload_n 0, 1)))) (
   sndC (sd_iload_n (hi := rfl) (hd := (by decide +kernel : decode cX10_fit 23 = .ok (.iload_n 1, 1)))) (
   sndN))))))))))⟩
theorem kX10_fit_12 : CallAt mX10_fit 12 0 mX10_compareWith 1 := ⟨by decide +kernel, ⟨_, (by decide +kernel : decode cX10_fit 12 = .ok (.invokevirtual 179, 3)), w_683, w_685, w_16⟩⟩
theorem kX10_fit_20 : CallAt mX10_fit 20 0 mX10_sentBits 0 := ⟨by decide +kernel, ⟨_, (by decide +kernel : decode cX10_fit 20 = .ok (.invokevirtual 183, 3)), w_723, w_725, w_17⟩⟩
theorem kX10_fit_24 : CallAt mX10_fit 24 0 mX2_digitsOf 2 := ⟨by decide +kernel, ⟨_, (by decide +kernel : decode cX10_fit 24 = .ok (.invokevirtual 207, 3)), w_785, w_786, w_787⟩⟩

set_option maxRecDepth 20000 in
theorem GX10_life : Good mX10_life := ⟨by decide +kernel, List.mem_of_getElem? (i := 792) (by decide +kernel), inX10, ⟨by decide +kernel, by decide +kernel⟩, by decide, show ∀ q ∈ tX10_life, Snd mX10_life q.1 q.2 from
  sndC (sd_iload_n (hi := rfl) (hd := (by decide +kernel : decode cX10_life 0 = .ok (.iload_n 1, 1)))) (
   sndC (sd_iconst (hd := (by decide +kernel : decode cX10_life 1 = .ok (.iconst 1, 1))) (hv := by decide)) (
   sndC (sd_if_eq (ht := by decide) (hd := (by decide +kernel : decode cX10_life 5 = .ok (.ifCond .eq 11, 3)))) (
   sndC (sd_iload_n (hi := rfl) (hd := (by decide +kernel : decode cX10_life 8 = .ok (.iload_n 2, 1)))) (
   sndC (sd_iconst (hd := (by decide +kernel : decode cX10_life 9 = .ok (.iconst 1, 1))) (hv := by decide)) (
   sndC (sd_if_ne (ht := by decide) (hd := (by decide +kernel : decode cX10_life 13 = .ok (.ifCond .ne 6, 3)))) (
   sndC (sd_ldc (hw := w_772) (hd := (by decide +kernel : decode cX10_life 16 = .ok (.ldc 203, 2)))) (
   sndC (sd_aload_n (hi := rfl) (hd := (by decide +kernel : decode cX10_life 19 = .ok (.aload_n 0, 1)))) (
   sndC (sd_aload_n (hi := rfl) (hd := (by decide +kernel : decode cX10_life 20 = .ok (.aload_n 0, 1)))) (
   sndC (sd_get (C := RX10) (T := TX10) (N := 18) (hc := rfl) (hin0 := iX10) (hk := by decide) (hlink := w_511) (hd := (by decide +kernel : decode cX10_life 21 = .ok (.getfield 9, 3)))) (
   sndC (sd_iload_n (hi := rfl) (hd := (by decide +kernel : decode cX10_life 27 = .ok (.iload_n 1, 1)))) (
   sndC (sd_if_ne (ht := by decide) (hd := (by decide +kernel : decode cX10_life 28 = .ok (.ifCond .ne 7, 3)))) (
   sndC (sd_iconst (hd := (by decide +kernel : decode cX10_life 31 = .ok (.iconst (-1), 1))) (hv := by decide)) (
   sndC (sd_goto (ht := by decide) (hd := (by decide +kernel : decode cX10_life 32 = .ok (.goto 4, 3)))) (
   sndC (sd_iconst (hd := (by decide +kernel : decode cX10_life 35 = .ok (.iconst 1, 1))) (hv := by decide)) (
   sndC (sd_istore_n (hi := rfl) (hd := (by decide +kernel : decode cX10_life 36 = .ok (.istore_n 3, 1)))) (
   sndC (sd_aload_n (hi := rfl) (hd := (by decide +kernel : decode cX10_life 37 = .ok (.aload_n 0, 1)))) (
   sndC (sd_iload_n (hi := rfl) (hd := (by decide +kernel : decode cX10_life 38 = .ok (.iload_n 1, 1)))) (
   sndC (sd_if_ne (ht := by decide) (hd := (by decide +kernel : decode cX10_life 39 = .ok (.ifCond .ne 7, 3)))) (
   sndC (sd_iconst (hd := (by decide +kernel : decode cX10_life 42 = .ok (.iconst 0, 1))) (hv := by decide)) (
   sndC (sd_goto (ht := by decide) (hd := (by decide +kernel : decode cX10_life 43 = .ok (.goto 4, 3)))) (
   sndC (sd_iconst (hd := (by decide +kernel : decode cX10_life 46 = .ok (.iconst 2, 1))) (hv := by decide)) (
   sndC (sd_iload_n (hi := rfl) (hd := (by decide +kernel : decode cX10_life 47 = .ok (.iload_n 3, 1)))) (
   sndC (sd_aload_n (hi := rfl) (hd := (by decide +kernel : decode cX10_life 51 = .ok (.aload_n 0, 1)))) (
   sndC (sd_get (C := RX10) (T := TX10) (N := 18) (hc := rfl) (hin0 := iX10) (hk := by decide) (hlink := w_519) (hd := (by decide +kernel : decode cX10_life 52 = .ok (.getfield 54, 3)))) (
   sndC (sd_aload_n (hi := rfl) (hd := (by decide +kernel : decode cX10_life 55 = .ok (.aload_n 0, 1)))) (
   sndC (sd_aload_n (hi := rfl) (hd := (by decide +kernel : decode cX10_life 59 = .ok (.aload_n 0, 1)))) (
   sndC (sd_get (C := RX10) (T := TX10) (N := 18) (hc := rfl) (hin0 := iX10) (hk := by decide) (hlink := w_521) (hd := (by decide +kernel : decode cX10_life 60 = .ok (.getfield 65, 3)))) (
   sndC (sd_istore (hd := (by decide +kernel : decode cX10_life 66 = .ok (.istore 4, 2)))) (
   sndC (sd_iload_n (hi := rfl) (hd := (by decide +kernel : decode cX10_life 68 = .ok (.iload_n 2, 1)))) (
   sndC (sd_if_ne (ht := by decide) (hd := (by decide +kernel : decode cX10_life 69 = .ok (.ifCond .ne 21, 3)))) (
   sndC (sd_aload_n (hi := rfl) (hd := (by decide +kernel : decode cX10_life 72 = .ok (.aload_n 0, 1)))) (
   sndC (sd_get (C := RX10) (T := TX10) (N := 18) (hc := rfl) (hin0 := iX10) (hk := by decide) (hlink := w_519) (hd := (by decide +kernel : decode cX10_life 73 = .ok (.getfield 54, 3)))) (
   sndC (sd_aload_n (hi := rfl) (hd := (by decide +kernel : decode cX10_life 76 = .ok (.aload_n 0, 1)))) (
   sndC (sd_aload_n (hi := rfl) (hd := (by decide +kernel : decode cX10_life 80 = .ok (.aload_n 0, 1)))) (
   sndC (sd_get (C := RX10) (T := TX10) (N := 18) (hc := rfl) (hin0 := iX10) (hk := by decide) (hlink := w_521) (hd := (by decide +kernel : decode cX10_life 81 = .ok (.getfield 65, 3)))) (
   sndC (sd_goto (ht := by decide) (hd := (by decide +kernel : decode cX10_life 87 = .ok (.goto 7, 3)))) (
   sndC (sd_iload_n (hi := rfl) (hd := (by decide +kernel : decode cX10_life 90 = .ok (.iload_n 3, 1)))) (
   sndC (sd_iload (hd := (by decide +kernel : decode cX10_life 91 = .ok (.iload 4, 2)))) (
   sndC (sd_imul (hd := (by decide +kernel : decode cX10_life 93 = .ok (.imul, 1)))) (
   sndN))))))))))))))))))))))))))))))))))))))))⟩
theorem kX10_life_2 : CallAt mX10_life 2 1 mX10_isWithin 2 := ⟨by decide +kernel, ⟨_, (by decide +kernel : decode cX10_life 2 = .ok (.invokestatic 126, 3)), w_574, w_575⟩⟩
theorem kX10_life_10 : CallAt mX10_life 10 1 mX10_isWithin 2 := ⟨by decide +kernel, ⟨_, (by decide +kernel : decode cX10_life 10 = .ok (.invokestatic 126, 3)), w_574, w_575⟩⟩
theorem kX10_life_24 : CallAt mX10_life 24 0 mX10_compareWith 1 := ⟨by decide +kernel, ⟨_, (by decide +kernel : decode cX10_life 24 = .ok (.invokevirtual 179, 3)), w_683, w_685, w_16⟩⟩
theorem kX10_life_48 : CallAt mX10_life 48 0 mX10_fillWeights 2 := ⟨by decide +kernel, ⟨_, (by decide +kernel : decode cX10_life 48 = .ok (.invokevirtual 210, 3)), w_793, w_795, w_25⟩⟩
theorem kX10_life_56 : CallAt mX10_life 56 0 mX10_sentBits 0 := ⟨by decide +kernel, ⟨_, (by decide +kernel : decode cX10_life 56 = .ok (.invokevirtual 183, 3)), w_723, w_725, w_17⟩⟩
theorem kX10_life_63 : CallAt mX10_life 63 0 mX2_mostWeight 2 := ⟨by decide +kernel, ⟨_, (by decide +kernel : decode cX10_life 63 = .ok (.invokevirtual 214, 3)), w_800, w_801, w_802⟩⟩
theorem kX10_life_77 : CallAt mX10_life 77 0 mX10_sentBits 0 := ⟨by decide +kernel, ⟨_, (by decide +kernel : decode cX10_life 77 = .ok (.invokevirtual 183, 3)), w_723, w_725, w_17⟩⟩
theorem kX10_life_84 : CallAt mX10_life 84 0 mX2_digitsOfMost 2 := ⟨by decide +kernel, ⟨_, (by decide +kernel : decode cX10_life 84 = .ok (.invokevirtual 218, 3)), w_812, w_813, w_814⟩⟩

set_option maxRecDepth 20000 in
theorem GX10_next : Good mX10_next := ⟨by decide +kernel, List.mem_of_getElem? (i := 820) (by decide +kernel), inX10, ⟨by decide +kernel, by decide +kernel⟩, by decide, show ∀ q ∈ tX10_next, Snd mX10_next q.1 q.2 from
  sndC (sd_iload_n (hi := rfl) (hd := (by decide +kernel : decode cX10_next 0 = .ok (.iload_n 1, 1)))) (
   sndC (sd_iconst (hd := (by decide +kernel : decode cX10_next 1 = .ok (.iconst 1, 1))) (hv := by decide)) (
   sndC (sd_if_eq (ht := by decide) (hd := (by decide +kernel : decode cX10_next 5 = .ok (.ifCond .eq 12, 3)))) (
   sndC (sd_aload_n (hi := rfl) (hd := (by decide +kernel : decode cX10_next 8 = .ok (.aload_n 0, 1)))) (
   sndC (sd_iload_n (hi := rfl) (hd := (by decide +kernel : decode cX10_next 9 = .ok (.iload_n 1, 1)))) (
   sndC (sd_iconst (hd := (by decide +kernel : decode cX10_next 10 = .ok (.iconst 0, 1))) (hv := by decide)) (
   sndC (sd_goto (ht := by decide) (hd := (by decide +kernel : decode cX10_next 14 = .ok (.goto 5, 3)))) (
   sndC (sd_bipush (hd := (by decide +kernel : decode cX10_next 17 = .ok (.bipush (-2), 2))) (hv := by decide)) (
   sndN))))))))⟩
theorem kX10_next_2 : CallAt mX10_next 2 1 mX10_isWithin 2 := ⟨by decide +kernel, ⟨_, (by decide +kernel : decode cX10_next 2 = .ok (.invokestatic 126, 3)), w_574, w_575⟩⟩
theorem kX10_next_11 : CallAt mX10_next 11 0 mX10_bestToSendFor 2 := ⟨by decide +kernel, ⟨_, (by decide +kernel : decode cX10_next 11 = .ok (.invokevirtual 221, 3)), w_821, w_823, w_28⟩⟩

set_option maxRecDepth 20000 in
theorem GX10_safest : Good mX10_safest := ⟨by decide +kernel, List.mem_of_getElem? (i := 856) (by decide +kernel), inX10, ⟨by decide +kernel, by decide +kernel⟩, by decide, show ∀ q ∈ tX10_safest, Snd mX10_safest q.1 q.2 from
  sndC (sd_iload_n (hi := rfl) (hd := (by decide +kernel : decode cX10_safest 0 = .ok (.iload_n 1, 1)))) (
   sndC (sd_iconst (hd := (by decide +kernel : decode cX10_safest 1 = .ok (.iconst 1, 1))) (hv := by decide)) (
   sndC (sd_if_eq (ht := by decide) (hd := (by decide +kernel : decode cX10_safest 5 = .ok (.ifCond .eq 12, 3)))) (
   sndC (sd_aload_n (hi := rfl) (hd := (by decide +kernel : decode cX10_safest 8 = .ok (.aload_n 0, 1)))) (
   sndC (sd_iload_n (hi := rfl) (hd := (by decide +kernel : decode cX10_safest 9 = .ok (.iload_n 1, 1)))) (
   sndC (sd_iconst (hd := (by decide +kernel : decode cX10_safest 10 = .ok (.iconst 1, 1))) (hv := by decide)) (
   sndC (sd_goto (ht := by decide) (hd := (by decide +kernel : decode cX10_safest 14 = .ok (.goto 5, 3)))) (
   sndC (sd_bipush (hd := (by decide +kernel : decode cX10_safest 17 = .ok (.bipush (-2), 2))) (hv := by decide)) (
   sndN))))))))⟩
theorem kX10_safest_2 : CallAt mX10_safest 2 1 mX10_isWithin 2 := ⟨by decide +kernel, ⟨_, (by decide +kernel : decode cX10_safest 2 = .ok (.invokestatic 126, 3)), w_574, w_575⟩⟩
theorem kX10_safest_11 : CallAt mX10_safest 11 0 mX10_bestToSendFor 2 := ⟨by decide +kernel, ⟨_, (by decide +kernel : decode cX10_safest 11 = .ok (.invokevirtual 221, 3)), w_821, w_823, w_28⟩⟩

set_option maxRecDepth 20000 in
theorem GX10_fewest : Good mX10_fewest := ⟨by decide +kernel, List.mem_of_getElem? (i := 860) (by decide +kernel), inX10, ⟨by decide +kernel, by decide +kernel⟩, by decide, show ∀ q ∈ tX10_fewest, Snd mX10_fewest q.1 q.2 from
  sndC (sd_iload_n (hi := rfl) (hd := (by decide +kernel : decode cX10_fewest 0 = .ok (.iload_n 1, 1)))) (
   sndC (sd_iconst (hd := (by decide +kernel : decode cX10_fewest 1 = .ok (.iconst 4, 1))) (hv := by decide)) (
   sndC (sd_if_ne (ht := by decide) (hd := (by decide +kernel : decode cX10_fewest 5 = .ok (.ifCond .ne 6, 3)))) (
   sndC (sd_bipush (hd := (by decide +kernel : decode cX10_fewest 8 = .ok (.bipush (-2), 2))) (hv := by decide)) (
   sndC (sd_aload_n (hi := rfl) (hd := (by decide +kernel : decode cX10_fewest 11 = .ok (.aload_n 0, 1)))) (
   sndC (sd_aload_n (hi := rfl) (hd := (by decide +kernel : decode cX10_fewest 12 = .ok (.aload_n 0, 1)))) (
   sndC (sd_get (C := RX10) (T := TX10) (N := 18) (hc := rfl) (hin0 := iX10) (hk := by decide) (hlink := w_511) (hd := (by decide +kernel : decode cX10_fewest 13 = .ok (.getfield 9, 3)))) (
   sndC (sd_aload_n (hi := rfl) (hd := (by decide +kernel : decode cX10_fewest 19 = .ok (.aload_n 0, 1)))) (
   sndC (sd_iconst (hd := (by decide +kernel : decode cX10_fewest 23 = .ok (.iconst 1, 1))) (hv := by decide)) (
   sndC (sd_aload_n (hi := rfl) (hd := (by decide +kernel : decode cX10_fewest 24 = .ok (.aload_n 0, 1)))) (
   sndC (sd_get (C := RX10) (T := TX10) (N := 18) (hc := rfl) (hin0 := iX10) (hk := by decide) (hlink := w_524) (hd := (by decide +kernel : decode cX10_fewest 25 = .ok (.getfield 130, 3)))) (
   sndC (sd_ishl (hd := (by decide +kernel : decode cX10_fewest 28 = .ok (.ishl, 1)))) (
   sndC (sd_iconst (hd := (by decide +kernel : decode cX10_fewest 29 = .ok (.iconst 1, 1))) (hv := by decide)) (
   sndC (sd_isub (hd := (by decide +kernel : decode cX10_fewest 30 = .ok (.isub, 1)))) (
   sndC (sd_istore_n (hi := rfl) (hd := (by decide +kernel : decode cX10_fewest 31 = .ok (.istore_n 2, 1)))) (
   sndC (sd_aload_n (hi := rfl) (hd := (by decide +kernel : decode cX10_fewest 32 = .ok (.aload_n 0, 1)))) (
   sndC (sd_get (C := RX10) (T := TX10) (N := 18) (hc := rfl) (hin0 := iX10) (hk := by decide) (hlink := w_519) (hd := (by decide +kernel : decode cX10_fewest 33 = .ok (.getfield 54, 3)))) (
   sndC (sd_iload_n (hi := rfl) (hd := (by decide +kernel : decode cX10_fewest 36 = .ok (.iload_n 2, 1)))) (
   sndC (sd_istore_n (hi := rfl) (hd := (by decide +kernel : decode cX10_fewest 40 = .ok (.istore_n 3, 1)))) (
   sndC (sd_iload_n (hi := rfl) (hd := (by decide +kernel : decode cX10_fewest 41 = .ok (.iload_n 1, 1)))) (
   sndC (sd_tsw (hd := (by decide +kernel : decode cX10_fewest 42 = .ok (.tableswitch 69 0 3 #[30, 38, 49, 57], 30))) (hok := by decide +kernel)) (
   sndC (sd_aload_n (hi := rfl) (hd := (by decide +kernel : decode cX10_fewest 72 = .ok (.aload_n 0, 1)))) (
   sndC (sd_iload_n (hi := rfl) (hd := (by decide +kernel : decode cX10_fewest 73 = .ok (.iload_n 2, 1)))) (
   sndC (sd_iload_n (hi := rfl) (hd := (by decide +kernel : decode cX10_fewest 74 = .ok (.iload_n 3, 1)))) (
   sndC (sd_iconst (hd := (by decide +kernel : decode cX10_fewest 75 = .ok (.iconst 0, 1))) (hv := by decide)) (
   sndC (sd_aload_n (hi := rfl) (hd := (by decide +kernel : decode cX10_fewest 80 = .ok (.aload_n 0, 1)))) (
   sndC (sd_iload_n (hi := rfl) (hd := (by decide +kernel : decode cX10_fewest 81 = .ok (.iload_n 2, 1)))) (
   sndC (sd_iload_n (hi := rfl) (hd := (by decide +kernel : decode cX10_fewest 82 = .ok (.iload_n 3, 1)))) (
   sndC (sd_iconst (hd := (by decide +kernel : decode cX10_fewest 83 = .ok (.iconst 0, 1))) (hv := by decide)) (
   sndC (sd_aload_n (hi := rfl) (hd := (by decide +kernel : decode cX10_fewest 91 = .ok (.aload_n 0, 1)))) (
   sndC (sd_iload_n (hi := rfl) (hd := (by decide +kernel : decode cX10_fewest 92 = .ok (.iload_n 2, 1)))) (
   sndC (sd_iload_n (hi := rfl) (hd := (by decide +kernel : decode cX10_fewest 93 = .ok (.iload_n 3, 1)))) (
   sndC (sd_iconst (hd := (by decide +kernel : decode cX10_fewest 94 = .ok (.iconst 1, 1))) (hv := by decide)) (
   sndC (sd_aload_n (hi := rfl) (hd := (by decide +kernel : decode cX10_fewest 99 = .ok (.aload_n 0, 1)))) (
   sndC (sd_aload_n (hi := rfl) (hd := (by decide +kernel : decode cX10_fewest 100 = .ok (.aload_n 0, 1)))) (
   sndC (sd_iload_n (hi := rfl) (hd := (by decide +kernel : decode cX10_fewest 101 = .ok (.iload_n 2, 1)))) (
   sndC (sd_iload_n (hi := rfl) (hd := (by decide +kernel : decode cX10_fewest 102 = .ok (.iload_n 3, 1)))) (
   sndC (sd_iconst (hd := (by decide +kernel : decode cX10_fewest 103 = .ok (.iconst 1, 1))) (hv := by decide)) (
   sndC (sd_iload_n (hi := rfl) (hd := (by decide +kernel : decode cX10_fewest 111 = .ok (.iload_n 3, 1)))) (
   sndN)))))))))))))))))))))))))))))))))))))))⟩
theorem kX10_fewest_2 : CallAt mX10_fewest 2 1 mX10_isWithin 2 := ⟨by decide +kernel, ⟨_, (by decide +kernel : decode cX10_fewest 2 = .ok (.invokestatic 126, 3)), w_574, w_575⟩⟩
theorem kX10_fewest_16 : CallAt mX10_fewest 16 0 mX10_compareWith 1 := ⟨by decide +kernel, ⟨_, (by decide +kernel : decode cX10_fewest 16 = .ok (.invokevirtual 179, 3)), w_683, w_685, w_16⟩⟩
theorem kX10_fewest_20 : CallAt mX10_fewest 20 0 mX10_fillPrices 0 := ⟨by decide +kernel, ⟨_, (by decide +kernel : decode cX10_fewest 20 = .ok (.invokevirtual 225, 3)), w_764, w_766, w_23⟩⟩
theorem kX10_fewest_37 : CallAt mX10_fewest 37 0 mX2_fitting 1 := ⟨by decide +kernel, ⟨_, (by decide +kernel : decode cX10_fewest 37 = .ok (.invokevirtual 186, 3)), w_727, w_728, w_729⟩⟩
theorem kX10_fewest_76 : CallAt mX10_fewest 76 0 mX10_leastSet 3 := ⟨by decide +kernel, ⟨_, (by decide +kernel : decode cX10_fewest 76 = .ok (.invokevirtual 228, 3)), w_861, w_863, w_35⟩⟩
theorem kX10_fewest_84 : CallAt mX10_fewest 84 0 mX10_leastSet 3 := ⟨by decide +kernel, ⟨_, (by decide +kernel : decode cX10_fewest 84 = .ok (.invokevirtual 228, 3)), w_861, w_863, w_35⟩⟩
theorem kX10_fewest_87 : CallAt mX10_fewest 87 1 mJ6_bitCount_0f7a4 1 := ⟨by decide +kernel, ⟨_, (by decide +kernel : decode cX10_fewest 87 = .ok (.invokestatic 192, 3)), w_755, w_617⟩⟩
theorem kX10_fewest_95 : CallAt mX10_fewest 95 0 mX10_leastSet 3 := ⟨by decide +kernel, ⟨_, (by decide +kernel : decode cX10_fewest 95 = .ok (.invokevirtual 228, 3)), w_861, w_863, w_35⟩⟩
theorem kX10_fewest_104 : CallAt mX10_fewest 104 0 mX10_leastSet 3 := ⟨by decide +kernel, ⟨_, (by decide +kernel : decode cX10_fewest 104 = .ok (.invokevirtual 228, 3)), w_861, w_863, w_35⟩⟩
theorem kX10_fewest_107 : CallAt mX10_fewest 107 0 mX10_priceOfSet 1 := ⟨by decide +kernel, ⟨_, (by decide +kernel : decode cX10_fewest 107 = .ok (.invokevirtual 232, 3)), w_768, w_770, w_24⟩⟩

set_option maxRecDepth 20000 in
theorem GX10_wrong : Good mX10_wrong := ⟨by decide +kernel, List.mem_of_getElem? (i := 868) (by decide +kernel), inX10, ⟨by decide +kernel, by decide +kernel⟩, by decide, show ∀ q ∈ tX10_wrong, Snd mX10_wrong q.1 q.2 from
  sndC (sd_iconst (hd := (by decide +kernel : decode cX10_wrong 0 = .ok (.iconst 0, 1))) (hv := by decide)) (
   sndC (sd_istore_n (hi := rfl) (hd := (by decide +kernel : decode cX10_wrong 1 = .ok (.istore_n 1, 1)))) (
   sndC (sd_iload_n (hi := rfl) (hd := (by decide +kernel : decode cX10_wrong 2 = .ok (.iload_n 1, 1)))) (
   sndC (sd_aload_n (hi := rfl) (hd := (by decide +kernel : decode cX10_wrong 3 = .ok (.aload_n 0, 1)))) (
   sndC (sd_get (C := RX10) (T := TX10) (N := 18) (hc := rfl) (hin0 := iX10) (hk := by decide) (hlink := w_524) (hd := (by decide +kernel : decode cX10_wrong 4 = .ok (.getfield 130, 3)))) (
   sndC (sd_cmp_ge (ht := by decide) (hd := (by decide +kernel : decode cX10_wrong 7 = .ok (.if_icmp .ge 29, 3)))) (
   sndC (sd_aload_n (hi := rfl) (hd := (by decide +kernel : decode cX10_wrong 10 = .ok (.aload_n 0, 1)))) (
   sndC (sd_iload_n (hi := rfl) (hd := (by decide +kernel : decode cX10_wrong 11 = .ok (.iload_n 1, 1)))) (
   sndC (sd_astore_n (hi := rfl) (hd := (by decide +kernel : decode cX10_wrong 15 = .ok (.astore_n 2, 1)))) (
   sndC (sd_aload_n (hi := rfl) (hd := (by decide +kernel : decode cX10_wrong 16 = .ok (.aload_n 2, 1)))) (
   sndC (sd_ifnull (ht := by decide) (hd := (by decide +kernel : decode cX10_wrong 17 = .ok (.ifnull 13, 3)))) (
   sndC (sd_aload_n (hi := rfl) (hd := (by decide +kernel : decode cX10_wrong 20 = .ok (.aload_n 0, 1)))) (
   sndC (sd_aload_n (hi := rfl) (hd := (by decide +kernel : decode cX10_wrong 21 = .ok (.aload_n 2, 1)))) (
   sndC (sd_if_eq (ht := by decide) (hd := (by decide +kernel : decode cX10_wrong 25 = .ok (.ifCond .eq 5, 3)))) (
   sndC (sd_iload_n (hi := rfl) (hd := (by decide +kernel : decode cX10_wrong 28 = .ok (.iload_n 1, 1)))) (
   sndC (sd_iinc (hv := by decide) (hd := (by decide +kernel : decode cX10_wrong 30 = .ok (.iinc 1 1, 3)))) (
   sndC (sd_goto (ht := by decide) (hd := (by decide +kernel : decode cX10_wrong 33 = .ok (.goto (-31), 3)))) (
   sndC (sd_iconst (hd := (by decide +kernel : decode cX10_wrong 36 = .ok (.iconst (-1), 1))) (hv := by decide)) (
   sndN))))))))))))))))))⟩
theorem kX10_wrong_12 : CallAt mX10_wrong 12 0 mX10_witnessAt 1 := ⟨by decide +kernel, ⟨_, (by decide +kernel : decode cX10_wrong 12 = .ok (.invokevirtual 112, 3)), w_586, w_588, w_11⟩⟩
theorem kX10_wrong_22 : CallAt mX10_wrong 22 0 mX10_saysFalse 1 := ⟨by decide +kernel, ⟨_, (by decide +kernel : decode cX10_wrong 22 = .ok (.invokevirtual 235, 3)), w_869, w_871, w_36⟩⟩

set_option maxRecDepth 20000 in
theorem GX10_tells : Good mX10_tells := ⟨by decide +kernel, List.mem_of_getElem? (i := 876) (by decide +kernel), inX10, ⟨by decide +kernel, by decide +kernel⟩, by decide, show ∀ q ∈ tX10_tells, Snd mX10_tells q.1 q.2 from
  sndC (sd_aload_n (hi := rfl) (hd := (by decide +kernel : decode cX10_tells 0 = .ok (.aload_n 0, 1)))) (
   sndC (sd_iload_n (hi := rfl) (hd := (by decide +kernel : decode cX10_tells 1 = .ok (.iload_n 1, 1)))) (
   sndC (sd_astore (hd := (by decide +kernel : decode cX10_tells 5 = .ok (.astore 4, 2)))) (
   sndC (sd_aload_n (hi := rfl) (hd := (by decide +kernel : decode cX10_tells 7 = .ok (.aload_n 0, 1)))) (
   sndC (sd_iload_n (hi := rfl) (hd := (by decide +kernel : decode cX10_tells 8 = .ok (.iload_n 2, 1)))) (
   sndC (sd_astore (hd := (by decide +kernel : decode cX10_tells 12 = .ok (.astore 5, 2)))) (
   sndC (sd_aload (hd := (by decide +kernel : decode cX10_tells 14 = .ok (.aload 4, 2)))) (
   sndC (sd_ifnull (ht := by decide) (hd := (by decide +kernel : decode cX10_tells 16 = .ok (.ifnull 17, 3)))) (
   sndC (sd_aload (hd := (by decide +kernel : decode cX10_tells 19 = .ok (.aload 5, 2)))) (
   sndC (sd_ifnull (ht := by decide) (hd := (by decide +kernel : decode cX10_tells 21 = .ok (.ifnull 12, 3)))) (
   sndC (sd_iload_n (hi := rfl) (hd := (by decide +kernel : decode cX10_tells 24 = .ok (.iload_n 3, 1)))) (
   sndC (sd_bipush (hd := (by decide +kernel : decode cX10_tells 25 = .ok (.bipush 7, 2))) (hv := by decide)) (
   sndC (sd_if_ne (ht := by decide) (hd := (by decide +kernel : decode cX10_tells 30 = .ok (.ifCond .ne 6, 3)))) (
   sndC (sd_bipush (hd := (by decide +kernel : decode cX10_tells 33 = .ok (.bipush (-2), 2))) (hv := by decide)) (
   sndC (sd_aload (hd := (by decide +kernel : decode cX10_tells 36 = .ok (.aload 4, 2)))) (
   sndC (sd_get (C := RX6) (T := TX6) (N := 3) (hc := rfl) (hin0 := iX6) (hk := by decide) (hlink := w_320) (hd := (by decide +kernel : decode cX10_tells 38 = .ok (.getfield 243, 3)))) (
   sndC (sd_iconst (hd := (by decide +kernel : decode cX10_tells 41 = .ok (.iconst (-1), 1))) (hv := by decide)) (
   sndC (sd_cmp_ne (ht := by decide) (hd := (by decide +kernel : decode cX10_tells 42 = .ok (.if_icmp .ne 6, 3)))) (
   sndC (sd_bipush (hd := (by decide +kernel : decode cX10_tells 45 = .ok (.bipush (-11), 2))) (hv := by decide)) (
   sndC (sd_aload (hd := (by decide +kernel : decode cX10_tells 48 = .ok (.aload 4, 2)))) (
   sndC (sd_get (C := RX6) (T := TX6) (N := 3) (hc := rfl) (hin0 := iX6) (hk := by decide) (hlink := w_322) (hd := (by decide +kernel : decode cX10_tells 50 = .ok (.getfield 246, 3)))) (
   sndC (sd_bipush (hd := (by decide +kernel : decode cX10_tells 53 = .ok (.bipush 6, 2))) (hv := by decide)) (
   sndC (sd_cmp_eq (ht := by decide) (hd := (by decide +kernel : decode cX10_tells 55 = .ok (.if_icmp .eq 6, 3)))) (
   sndC (sd_bipush (hd := (by decide +kernel : decode cX10_tells 58 = .ok (.bipush (-2), 2))) (hv := by decide)) (
   sndC (sd_iload_n (hi := rfl) (hd := (by decide +kernel : decode cX10_tells 61 = .ok (.iload_n 3, 1)))) (
   sndC (sd_tsw (hd := (by decide +kernel : decode cX10_tells 62 = .ok (.tableswitch 138 0 6 #[42, 68, 77, 102, 111, 120, 129], 42))) (hok := by decide +kernel)) (
   sndC (sd_aload_n (hi := rfl) (hd := (by decide +kernel : decode cX10_tells 104 = .ok (.aload_n 0, 1)))) (
   sndC (sd_aload (hd := (by decide +kernel : decode cX10_tells 105 = .ok (.aload 4, 2)))) (
   sndC (sd_aload_n (hi := rfl) (hd := (by decide +kernel : decode cX10_tells 107 = .ok (.aload_n 0, 1)))) (
   sndC (sd_get (C := RX10) (T := TX10) (N := 18) (hc := rfl) (hin0 := iX10) (hk := by decide) (hlink := w_528) (hd := (by decide +kernel : decode cX10_tells 108 = .ok (.getfield 100, 3)))) (
   sndC (sd_aload (hd := (by decide +kernel : decode cX10_tells 111 = .ok (.aload 5, 2)))) (
   sndC (sd_get (C := RX9) (T := TX9) (N := 10) (hc := rfl) (hin0 := iX9) (hk := by decide) (hlink := w_276) (hd := (by decide +kernel : decode cX10_tells 113 = .ok (.getfield 154, 3)))) (
   sndC (sd_aload (hd := (by decide +kernel : decode cX10_tells 116 = .ok (.aload 5, 2)))) (
   sndC (sd_get (C := RX9) (T := TX9) (N := 10) (hc := rfl) (hin0 := iX9) (hk := by decide) (hlink := w_279) (hd := (by decide +kernel : decode cX10_tells 118 = .ok (.getfield 145, 3)))) (
   sndC (sd_aload (hd := (by decide +kernel : decode cX10_tells 121 = .ok (.aload 5, 2)))) (
   sndC (sd_get (C := RX9) (T := TX9) (N := 10) (hc := rfl) (hin0 := iX9) (hk := by decide) (hlink := w_282) (hd := (by decide +kernel : decode cX10_tells 123 = .ok (.getfield 148, 3)))) (
   sndC (sd_aload_n (hi := rfl) (hd := (by decide +kernel : decode cX10_tells 130 = .ok (.aload_n 0, 1)))) (
   sndC (sd_aload (hd := (by decide +kernel : decode cX10_tells 131 = .ok (.aload 4, 2)))) (
   sndC (sd_aload (hd := (by decide +kernel : decode cX10_tells 133 = .ok (.aload 5, 2)))) (
   sndC (sd_aload_n (hi := rfl) (hd := (by decide +kernel : decode cX10_tells 139 = .ok (.aload_n 0, 1)))) (
   sndC (sd_aload (hd := (by decide +kernel : decode cX10_tells 140 = .ok (.aload 4, 2)))) (
   sndC (sd_aload (hd := (by decide +kernel : decode cX10_tells 142 = .ok (.aload 5, 2)))) (
   sndC (sd_if_le (ht := by decide) (hd := (by decide +kernel : decode cX10_tells 147 = .ok (.ifCond .le 15, 3)))) (
   sndC (sd_aload_n (hi := rfl) (hd := (by decide +kernel : decode cX10_tells 150 = .ok (.aload_n 0, 1)))) (
   sndC (sd_get (C := RX10) (T := TX10) (N := 18) (hc := rfl) (hin0 := iX10) (hk := by decide) (hlink := w_519) (hd := (by decide +kernel : decode cX10_tells 151 = .ok (.getfield 54, 3)))) (
   sndC (sd_iconst (hd := (by decide +kernel : decode cX10_tells 154 = .ok (.iconst 1, 1))) (hv := by decide)) (
   sndC (sd_iconst (hd := (by decide +kernel : decode cX10_tells 155 = .ok (.iconst 0, 1))) (hv := by decide)) (
   sndC (sd_goto (ht := by decide) (hd := (by decide +kernel : decode cX10_tells 159 = .ok (.goto 4, 3)))) (
   sndC (sd_iconst (hd := (by decide +kernel : decode cX10_tells 162 = .ok (.iconst 0, 1))) (hv := by decide)) (
   sndC (sd_aload_n (hi := rfl) (hd := (by decide +kernel : decode cX10_tells 164 = .ok (.aload_n 0, 1)))) (
   sndC (sd_aload (hd := (by decide +kernel : decode cX10_tells 165 = .ok (.aload 4, 2)))) (
   sndC (sd_aload (hd := (by decide +kernel : decode cX10_tells 167 = .ok (.aload 5, 2)))) (
   sndC (sd_aload_n (hi := rfl) (hd := (by decide +kernel : decode cX10_tells 173 = .ok (.aload_n 0, 1)))) (
   sndC (sd_aload (hd := (by decide +kernel : decode cX10_tells 174 = .ok (.aload 4, 2)))) (
   sndC (sd_aload (hd := (by decide +kernel : decode cX10_tells 176 = .ok (.aload 5, 2)))) (
   sndC (sd_aload_n (hi := rfl) (hd := (by decide +kernel : decode cX10_tells 182 = .ok (.aload_n 0, 1)))) (
   sndC (sd_aload (hd := (by decide +kernel : decode cX10_tells 183 = .ok (.aload 4, 2)))) (
   sndC (sd_aload (hd := (by decide +kernel : decode cX10_tells 185 = .ok (.aload 5, 2)))) (
   sndC (sd_aload_n (hi := rfl) (hd := (by decide +kernel : decode cX10_tells 191 = .ok (.aload_n 0, 1)))) (
   sndC (sd_aload (hd := (by decide +kernel : decode cX10_tells 192 = .ok (.aload 4, 2)))) (
   sndC (sd_aload (hd := (by decide +kernel : decode cX10_tells 194 = .ok (.aload 5, 2)))) (
   sndC (sd_aload_n (hi := rfl) (hd := (by decide +kernel : decode cX10_tells 200 = .ok (.aload_n 0, 1)))) (
   sndC (sd_aload (hd := (by decide +kernel : decode cX10_tells 201 = .ok (.aload 4, 2)))) (
   sndC (sd_aload (hd := (by decide +kernel : decode cX10_tells 203 = .ok (.aload 5, 2)))) (
   sndN))))))))))))))))))))))))))))))))))))))))))))))))))))))))))))))))⟩
theorem kX10_tells_2 : CallAt mX10_tells 2 0 mX10_sheetAt 1 := ⟨by decide +kernel, ⟨_, (by decide +kernel : decode cX10_tells 2 = .ok (.invokevirtual 239, 3)), w_877, w_879, w_37⟩⟩
theorem kX10_tells_9 : CallAt mX10_tells 9 0 mX10_witnessAt 1 := ⟨by decide +kernel, ⟨_, (by decide +kernel : decode cX10_tells 9 = .ok (.invokevirtual 112, 3)), w_586, w_588, w_11⟩⟩
theorem kX10_tells_27 : CallAt mX10_tells 27 1 mX10_isWithin 2 := ⟨by decide +kernel, ⟨_, (by decide +kernel : decode cX10_tells 27 = .ok (.invokestatic 126, 3)), w_574, w_575⟩⟩
theorem kX10_tells_126 : CallAt mX10_tells 126 0 mX10_firstOther 5 := ⟨by decide +kernel, ⟨_, (by decide +kernel : decode cX10_tells 126 = .ok (.invokevirtual 249, 3)), w_881, w_883, w_38⟩⟩
theorem kX10_tells_135 : CallAt mX10_tells 135 0 mX10_livesTold 2 := ⟨by decide +kernel, ⟨_, (by decide +kernel : decode cX10_tells 135 = .ok (.invokevirtual 253, 3)), w_890, w_892, w_39⟩⟩
theorem kX10_tells_144 : CallAt mX10_tells 144 0 mX10_livesTold 2 := ⟨by decide +kernel, ⟨_, (by decide +kernel : decode cX10_tells 144 = .ok (.invokevirtual 253, 3)), w_890, w_892, w_39⟩⟩
theorem kX10_tells_156 : CallAt mX10_tells 156 0 mX2_digitsOf 2 := ⟨by decide +kernel, ⟨_, (by decide +kernel : decode cX10_tells 156 = .ok (.invokevirtual 207, 3)), w_785, w_786, w_787⟩⟩
theorem kX10_tells_169 : CallAt mX10_tells 169 0 mX10_kindsTelling 2 := ⟨by decide +kernel, ⟨_, (by decide +kernel : decode cX10_tells 169 = .ok (.invokevirtual 257, 3)), w_895, w_897, w_40⟩⟩
theorem kX10_tells_178 : CallAt mX10_tells 178 0 mX10_numbersTelling 2 := ⟨by decide +kernel, ⟨_, (by decide +kernel : decode cX10_tells 178 = .ok (.invokevirtual 260, 3)), w_899, w_901, w_41⟩⟩
theorem kX10_tells_187 : CallAt mX10_tells 187 0 mX10_sawTelling 2 := ⟨by decide +kernel, ⟨_, (by decide +kernel : decode cX10_tells 187 = .ok (.invokevirtual 263, 3)), w_903, w_905, w_42⟩⟩
theorem kX10_tells_196 : CallAt mX10_tells 196 0 mX10_leastSawTelling 2 := ⟨by decide +kernel, ⟨_, (by decide +kernel : decode cX10_tells 196 = .ok (.invokevirtual 266, 3)), w_907, w_909, w_43⟩⟩
theorem kX10_tells_205 : CallAt mX10_tells 205 0 mX10_textsTelling 2 := ⟨by decide +kernel, ⟨_, (by decide +kernel : decode cX10_tells 205 = .ok (.invokevirtual 269, 3)), w_911, w_913, w_44⟩⟩

set_option maxRecDepth 20000 in
theorem GX10_film : Good mX10_film := ⟨by decide +kernel, List.mem_of_getElem? (i := 918) (by decide +kernel), inX10, ⟨by decide +kernel, by decide +kernel⟩, by decide, show ∀ q ∈ tX10_film, Snd mX10_film q.1 q.2 from
  sndC (sd_aload_n (hi := rfl) (hd := (by decide +kernel : decode cX10_film 0 = .ok (.aload_n 0, 1)))) (
   sndC (sd_iload_n (hi := rfl) (hd := (by decide +kernel : decode cX10_film 1 = .ok (.iload_n 1, 1)))) (
   sndC (sd_astore_n (hi := rfl) (hd := (by decide +kernel : decode cX10_film 5 = .ok (.astore_n 3, 1)))) (
   sndC (sd_aload_n (hi := rfl) (hd := (by decide +kernel : decode cX10_film 6 = .ok (.aload_n 0, 1)))) (
   sndC (sd_iload_n (hi := rfl) (hd := (by decide +kernel : decode cX10_film 7 = .ok (.iload_n 2, 1)))) (
   sndC (sd_astore (hd := (by decide +kernel : decode cX10_film 11 = .ok (.astore 4, 2)))) (
   sndC (sd_aload_n (hi := rfl) (hd := (by decide +kernel : decode cX10_film 13 = .ok (.aload_n 3, 1)))) (
   sndC (sd_ifnull (ht := by decide) (hd := (by decide +kernel : decode cX10_film 14 = .ok (.ifnull 8, 3)))) (
   sndC (sd_aload (hd := (by decide +kernel : decode cX10_film 17 = .ok (.aload 4, 2)))) (
   sndC (sd_ifnonnull (ht := by decide) (hd := (by decide +kernel : decode cX10_film 19 = .ok (.ifnonnull 6, 3)))) (
   sndC (sd_bipush (hd := (by decide +kernel : decode cX10_film 22 = .ok (.bipush (-2), 2))) (hv := by decide)) (
   sndC (sd_aload_n (hi := rfl) (hd := (by decide +kernel : decode cX10_film 25 = .ok (.aload_n 3, 1)))) (
   sndC (sd_iconst (hd := (by decide +kernel : decode cX10_film 26 = .ok (.iconst 0, 1))) (hv := by decide)) (
   sndC (sd_bipush (hd := (by decide +kernel : decode cX10_film 27 = .ok (.bipush 6, 2))) (hv := by decide)) (
   sndC (sd_iconst (hd := (by decide +kernel : decode cX10_film 32 = .ok (.iconst 0, 1))) (hv := by decide)) (
   sndC (sd_istore (hd := (by decide +kernel : decode cX10_film 33 = .ok (.istore 5, 2)))) (
   sndC (sd_iconst (hd := (by decide +kernel : decode cX10_film 35 = .ok (.iconst 0, 1))) (hv := by decide)) (
   sndC (sd_istore (hd := (by decide +kernel : decode cX10_film 36 = .ok (.istore 6, 2)))) (
   sndC (sd_iload (hd := (by decide +kernel : decode cX10_film 38 = .ok (.iload 6, 2)))) (
   sndC (sd_bipush (hd := (by decide +kernel : decode cX10_film 40 = .ok (.bipush 6, 2))) (hv := by decide)) (
   sndC (sd_cmp_ge (ht := by decide) (hd := (by decide +kernel : decode cX10_film 42 = .ok (.if_icmp .ge 36, 3)))) (
   sndC (sd_aload_n (hi := rfl) (hd := (by decide +kernel : decode cX10_film 45 = .ok (.aload_n 0, 1)))) (
   sndC (sd_aload (hd := (by decide +kernel : decode cX10_film 46 = .ok (.aload 4, 2)))) (
   sndC (sd_iload (hd := (by decide +kernel : decode cX10_film 48 = .ok (.iload 6, 2)))) (
   sndC (sd_istore (hd := (by decide +kernel : decode cX10_film 53 = .ok (.istore 7, 2)))) (
   sndC (sd_aload_n (hi := rfl) (hd := (by decide +kernel : decode cX10_film 55 = .ok (.aload_n 3, 1)))) (
   sndC (sd_iload (hd := (by decide +kernel : decode cX10_film 56 = .ok (.iload 6, 2)))) (
   sndC (sd_iload (hd := (by decide +kernel : decode cX10_film 58 = .ok (.iload 7, 2)))) (
   sndC (sd_iload (hd := (by decide +kernel : decode cX10_film 63 = .ok (.iload 7, 2)))) (
   sndC (sd_iconst (hd := (by decide +kernel : decode cX10_film 65 = .ok (.iconst (-1), 1))) (hv := by decide)) (
   sndC (sd_cmp_eq (ht := by decide) (hd := (by decide +kernel : decode cX10_film 66 = .ok (.if_icmp .eq 6, 3)))) (
   sndC (sd_iinc (hv := by decide) (hd := (by decide +kernel : decode cX10_film 69 = .ok (.iinc 5 1, 3)))) (
   sndC (sd_iinc (hv := by decide) (hd := (by decide +kernel : decode cX10_film 72 = .ok (.iinc 6 1, 3)))) (
   sndC (sd_goto (ht := by decide) (hd := (by decide +kernel : decode cX10_film 75 = .ok (.goto (-37), 3)))) (
   sndC (sd_iload (hd := (by decide +kernel : decode cX10_film 78 = .ok (.iload 5, 2)))) (
   sndN)))))))))))))))))))))))))))))))))))⟩
theorem kX10_film_2 : CallAt mX10_film 2 0 mX10_sheetAt 1 := ⟨by decide +kernel, ⟨_, (by decide +kernel : decode cX10_film 2 = .ok (.invokevirtual 239, 3)), w_877, w_879, w_37⟩⟩
theorem kX10_film_8 : CallAt mX10_film 8 0 mX10_witnessAt 1 := ⟨by decide +kernel, ⟨_, (by decide +kernel : decode cX10_film 8 = .ok (.invokevirtual 112, 3)), w_586, w_588, w_11⟩⟩
theorem kX10_film_29 : CallAt mX10_film 29 0 mX6_become 2 := ⟨by decide +kernel, ⟨_, (by decide +kernel : decode cX10_film 29 = .ok (.invokevirtual 272, 3)), w_919, w_920, w_921⟩⟩
theorem kX10_film_50 : CallAt mX10_film 50 0 mX10_saidBy 2 := ⟨by decide +kernel, ⟨_, (by decide +kernel : decode cX10_film 50 = .ok (.invokevirtual 161, 3)), w_648, w_650, w_13⟩⟩
theorem kX10_film_60 : CallAt mX10_film 60 0 mX6_put 2 := ⟨by decide +kernel, ⟨_, (by decide +kernel : decode cX10_film 60 = .ok (.invokevirtual 274, 3)), w_924, w_925, w_926⟩⟩

set_option maxRecDepth 20000 in
theorem GX10_drawn : Good mX10_drawn := ⟨by decide +kernel, List.mem_of_getElem? (i := 932) (by decide +kernel), inX10, ⟨by decide +kernel, by decide +kernel⟩, by decide, show ∀ q ∈ tX10_drawn, Snd mX10_drawn q.1 q.2 from
  sndC (sd_aload_n (hi := rfl) (hd := (by decide +kernel : decode cX10_drawn 0 = .ok (.aload_n 0, 1)))) (
   sndC (sd_iload_n (hi := rfl) (hd := (by decide +kernel : decode cX10_drawn 1 = .ok (.iload_n 1, 1)))) (
   sndC (sd_aload_n (hi := rfl) (hd := (by decide +kernel : decode cX10_drawn 5 = .ok (.aload_n 0, 1)))) (
   sndC (sd_aload_n (hi := rfl) (hd := (by decide +kernel : decode cX10_drawn 6 = .ok (.aload_n 0, 1)))) (
   sndC (sd_get (C := RX10) (T := TX10) (N := 18) (hc := rfl) (hin0 := iX10) (hk := by decide) (hlink := w_512) (hd := (by decide +kernel : decode cX10_drawn 7 = .ok (.getfield 13, 3)))) (
   sndC (sd_aload_n (hi := rfl) (hd := (by decide +kernel : decode cX10_drawn 13 = .ok (.aload_n 0, 1)))) (
   sndC (sd_get (C := RX10) (T := TX10) (N := 18) (hc := rfl) (hin0 := iX10) (hk := by decide) (hlink := w_519) (hd := (by decide +kernel : decode cX10_drawn 14 = .ok (.getfield 54, 3)))) (
   sndC (sd_aload_n (hi := rfl) (hd := (by decide +kernel : decode cX10_drawn 17 = .ok (.aload_n 0, 1)))) (
   sndN))))))))⟩
theorem kX10_drawn_2 : CallAt mX10_drawn 2 0 mX10_draw 1 := ⟨by decide +kernel, ⟨_, (by decide +kernel : decode cX10_drawn 2 = .ok (.invokevirtual 276, 3)), w_933, w_935, w_45⟩⟩
theorem kX10_drawn_10 : CallAt mX10_drawn 10 0 mX10_compareWith 1 := ⟨by decide +kernel, ⟨_, (by decide +kernel : decode cX10_drawn 10 = .ok (.invokevirtual 179, 3)), w_683, w_685, w_16⟩⟩
theorem kX10_drawn_18 : CallAt mX10_drawn 18 0 mX10_sentBits 0 := ⟨by decide +kernel, ⟨_, (by decide +kernel : decode cX10_drawn 18 = .ok (.invokevirtual 183, 3)), w_723, w_725, w_17⟩⟩
theorem kX10_drawn_21 : CallAt mX10_drawn 21 0 mX2_fitting 1 := ⟨by decide +kernel, ⟨_, (by decide +kernel : decode cX10_drawn 21 = .ok (.invokevirtual 186, 3)), w_727, w_728, w_729⟩⟩

set_option maxRecDepth 20000 in
theorem GX10_chance : Good mX10_chance := ⟨by decide +kernel, List.mem_of_getElem? (i := 941) (by decide +kernel), inX10, ⟨by decide +kernel, by decide +kernel⟩, by decide, show ∀ q ∈ tX10_chance, Snd mX10_chance q.1 q.2 from
  sndC (sd_iload_n (hi := rfl) (hd := (by decide +kernel : decode cX10_chance 0 = .ok (.iload_n 2, 1)))) (
   sndC (sd_iconst (hd := (by decide +kernel : decode cX10_chance 1 = .ok (.iconst 1, 1))) (hv := by decide)) (
   sndC (sd_cmp_lt (ht := by decide) (hd := (by decide +kernel : decode cX10_chance 2 = .ok (.if_icmp .lt 27, 3)))) (
   sndC (sd_iload_n (hi := rfl) (hd := (by decide +kernel : decode cX10_chance 5 = .ok (.iload_n 2, 1)))) (
   sndC (sd_bipush (hd := (by decide +kernel : decode cX10_chance 6 = .ok (.bipush 20, 2))) (hv := by decide)) (
   sndC (sd_cmp_gt (ht := by decide) (hd := (by decide +kernel : decode cX10_chance 8 = .ok (.if_icmp .gt 21, 3)))) (
   sndC (sd_iload_n (hi := rfl) (hd := (by decide +kernel : decode cX10_chance 11 = .ok (.iload_n 3, 1)))) (
   sndC (sd_bipush (hd := (by decide +kernel : decode cX10_chance 12 = .ok (.bipush 6, 2))) (hv := by decide)) (
   sndC (sd_if_eq (ht := by decide) (hd := (by decide +kernel : decode cX10_chance 17 = .ok (.ifCond .eq 12, 3)))) (
   sndC (sd_iload (hd := (by decide +kernel : decode cX10_chance 20 = .ok (.iload 4, 2)))) (
   sndC (sd_iconst (hd := (by decide +kernel : decode cX10_chance 22 = .ok (.iconst 1, 1))) (hv := by decide)) (
   sndC (sd_if_ne (ht := by decide) (hd := (by decide +kernel : decode cX10_chance 26 = .ok (.ifCond .ne 7, 3)))) (
   sndC (sd_ldc2 (hw := w_942) (hd := (by decide +kernel : decode cX10_chance 29 = .ok (.ldc2_w 280, 3)))) (
   sndC (sd_iconst (hd := (by decide +kernel : decode cX10_chance 33 = .ok (.iconst 0, 1))) (hv := by decide)) (
   sndC (sd_istore (hd := (by decide +kernel : decode cX10_chance 34 = .ok (.istore 5, 2)))) (
   sndC (sd_iconst (hd := (by decide +kernel : decode cX10_chance 36 = .ok (.iconst 0, 1))) (hv := by decide)) (
   sndC (sd_istore (hd := (by decide +kernel : decode cX10_chance 37 = .ok (.istore 6, 2)))) (
   sndC (sd_iload (hd := (by decide +kernel : decode cX10_chance 39 = .ok (.iload 6, 2)))) (
   sndC (sd_iload_n (hi := rfl) (hd := (by decide +kernel : decode cX10_chance 41 = .ok (.iload_n 2, 1)))) (
   sndC (sd_cmp_ge (ht := by decide) (hd := (by decide +kernel : decode cX10_chance 42 = .ok (.if_icmp .ge 46, 3)))) (
   sndC (sd_aload_n (hi := rfl) (hd := (by decide +kernel : decode cX10_chance 45 = .ok (.aload_n 0, 1)))) (
   sndC (sd_iload_n (hi := rfl) (hd := (by decide +kernel : decode cX10_chance 46 = .ok (.iload_n 1, 1)))) (
   sndC (sd_iload (hd := (by decide +kernel : decode cX10_chance 47 = .ok (.iload 6, 2)))) (
   sndC (sd_iadd (hd := (by decide +kernel : decode cX10_chance 49 = .ok (.iadd, 1)))) (
   sndC (sd_aload_n (hi := rfl) (hd := (by decide +kernel : decode cX10_chance 53 = .ok (.aload_n 0, 1)))) (
   sndC (sd_aload_n (hi := rfl) (hd := (by decide +kernel : decode cX10_chance 54 = .ok (.aload_n 0, 1)))) (
   sndC (sd_get (C := RX10) (T := TX10) (N := 18) (hc := rfl) (hin0 := iX10) (hk := by decide) (hlink := w_512) (hd := (by decide +kernel : decode cX10_chance 55 = .ok (.getfield 13, 3)))) (
   sndC (sd_aload_n (hi := rfl) (hd := (by decide +kernel : decode cX10_chance 61 = .ok (.aload_n 0, 1)))) (
   sndC (sd_get (C := RX10) (T := TX10) (N := 18) (hc := rfl) (hin0 := iX10) (hk := by decide) (hlink := w_519) (hd := (by decide +kernel : decode cX10_chance 62 = .ok (.getfield 54, 3)))) (
   sndC (sd_aload_n (hi := rfl) (hd := (by decide +kernel : decode cX10_chance 65 = .ok (.aload_n 0, 1)))) (
   sndC (sd_iload_n (hi := rfl) (hd := (by decide +kernel : decode cX10_chance 75 = .ok (.iload_n 3, 1)))) (
   sndC (sd_cmp_lt (ht := by decide) (hd := (by decide +kernel : decode cX10_chance 76 = .ok (.if_icmp .lt 6, 3)))) (
   sndC (sd_iinc (hv := by decide) (hd := (by decide +kernel : decode cX10_chance 79 = .ok (.iinc 5 1, 3)))) (
   sndC (sd_iinc (hv := by decide) (hd := (by decide +kernel : decode cX10_chance 82 = .ok (.iinc 6 1, 3)))) (
   sndC (sd_goto (ht := by decide) (hd := (by decide +kernel : decode cX10_chance 85 = .ok (.goto (-46), 3)))) (
   sndC (sd_iload (hd := (by decide +kernel : decode cX10_chance 88 = .ok (.iload 5, 2)))) (
   sndC (sd_iload_n (hi := rfl) (hd := (by decide +kernel : decode cX10_chance 90 = .ok (.iload_n 2, 1)))) (
   sndC (sd_istore (hd := (by decide +kernel : decode cX10_chance 94 = .ok (.istore 6, 2)))) (
   sndC (sd_iload (hd := (by decide +kernel : decode cX10_chance 96 = .ok (.iload 4, 2)))) (
   sndC (sd_if_ne (ht := by decide) (hd := (by decide +kernel : decode cX10_chance 98 = .ok (.ifCond .ne 8, 3)))) (
   sndC (sd_iload (hd := (by decide +kernel : decode cX10_chance 101 = .ok (.iload 5, 2)))) (
   sndC (sd_goto (ht := by decide) (hd := (by decide +kernel : decode cX10_chance 103 = .ok (.goto 4, 3)))) (
   sndC (sd_iload_n (hi := rfl) (hd := (by decide +kernel : decode cX10_chance 106 = .ok (.iload_n 2, 1)))) (
   sndC (sd_istore (hd := (by decide +kernel : decode cX10_chance 107 = .ok (.istore 7, 2)))) (
   sndC (sd_iload (hd := (by decide +kernel : decode cX10_chance 109 = .ok (.iload 6, 2)))) (
   sndC (sd_if_le (ht := by decide) (hd := (by decide +kernel : decode cX10_chance 111 = .ok (.ifCond .le 12, 3)))) (
   sndC (sd_iload (hd := (by decide +kernel : decode cX10_chance 114 = .ok (.iload 7, 2)))) (
   sndC (sd_iload (hd := (by decide +kernel : decode cX10_chance 116 = .ok (.iload 6, 2)))) (
   sndC (sd_idiv (hd := (by decide +kernel : decode cX10_chance 118 = .ok (.idiv, 1)))) (
   sndC (sd_i2l (hd := (by decide +kernel : decode cX10_chance 119 = .ok (.i2l, 1)))) (
   sndC (sd_goto (ht := by decide) (hd := (by decide +kernel : decode cX10_chance 120 = .ok (.goto 6, 3)))) (
   sndC (sd_iload (hd := (by decide +kernel : decode cX10_chance 123 = .ok (.iload 7, 2)))) (
   sndC (sd_i2l (hd := (by decide +kernel : decode cX10_chance 125 = .ok (.i2l, 1)))) (
   sndN)))))))))))))))))))))))))))))))))))))))))))))))))))))⟩
theorem kX10_chance_14 : CallAt mX10_chance 14 1 mX10_isWithin 2 := ⟨by decide +kernel, ⟨_, (by decide +kernel : decode cX10_chance 14 = .ok (.invokestatic 126, 3)), w_574, w_575⟩⟩
theorem kX10_chance_23 : CallAt mX10_chance 23 1 mX10_isWithin 2 := ⟨by decide +kernel, ⟨_, (by decide +kernel : decode cX10_chance 23 = .ok (.invokestatic 126, 3)), w_574, w_575⟩⟩
theorem kX10_chance_50 : CallAt mX10_chance 50 0 mX10_draw 1 := ⟨by decide +kernel, ⟨_, (by decide +kernel : decode cX10_chance 50 = .ok (.invokevirtual 276, 3)), w_933, w_935, w_45⟩⟩
theorem kX10_chance_58 : CallAt mX10_chance 58 0 mX10_compareWith 1 := ⟨by decide +kernel, ⟨_, (by decide +kernel : decode cX10_chance 58 = .ok (.invokevirtual 179, 3)), w_683, w_685, w_16⟩⟩
theorem kX10_chance_66 : CallAt mX10_chance 66 0 mX10_sentBits 0 := ⟨by decide +kernel, ⟨_, (by decide +kernel : decode cX10_chance 66 = .ok (.invokevirtual 183, 3)), w_723, w_725, w_17⟩⟩
theorem kX10_chance_69 : CallAt mX10_chance 69 0 mX2_sureSteps 1 := ⟨by decide +kernel, ⟨_, (by decide +kernel : decode cX10_chance 69 = .ok (.invokevirtual 189, 3)), w_745, w_746, w_747⟩⟩
theorem kX10_chance_72 : CallAt mX10_chance 72 1 mJ6_bitCount_0f7a4 1 := ⟨by decide +kernel, ⟨_, (by decide +kernel : decode cX10_chance 72 = .ok (.invokestatic 192, 3)), w_755, w_617⟩⟩
theorem kX10_chance_91 : CallAt mX10_chance 91 1 mX10_commonDivisor 2 := ⟨by decide +kernel, ⟨_, (by decide +kernel : decode cX10_chance 91 = .ok (.invokestatic 282, 3)), w_943, w_944⟩⟩

set_option maxRecDepth 20000 in
theorem GX10_image : Good mX10_image := ⟨by decide +kernel, List.mem_of_getElem? (i := 949) (by decide +kernel), inX10, ⟨by decide +kernel, by decide +kernel⟩, by decide, show ∀ q ∈ tX10_image, Snd mX10_image q.1 q.2 from
  sndC (sd_aload_n (hi := rfl) (hd := (by decide +kernel : decode cX10_image 0 = .ok (.aload_n 0, 1)))) (
   sndC (sd_get (C := RX10) (T := TX10) (N := 18) (hc := rfl) (hin0 := iX10) (hk := by decide) (hlink := w_520) (hd := (by decide +kernel : decode cX10_image 1 = .ok (.getfield 61, 3)))) (
   sndC (sd_aload_n (hi := rfl) (hd := (by decide +kernel : decode cX10_image 4 = .ok (.aload_n 0, 1)))) (
   sndC (sd_get (C := RX10) (T := TX10) (N := 18) (hc := rfl) (hin0 := iX10) (hk := by decide) (hlink := w_511) (hd := (by decide +kernel : decode cX10_image 5 = .ok (.getfield 9, 3)))) (
   sndC (sd_aload_n (hi := rfl) (hd := (by decide +kernel : decode cX10_image 8 = .ok (.aload_n 0, 1)))) (
   sndC (sd_get (C := RX10) (T := TX10) (N := 18) (hc := rfl) (hin0 := iX10) (hk := by decide) (hlink := w_523) (hd := (by decide +kernel : decode cX10_image 9 = .ok (.getfield 71, 3)))) (
   sndC (sd_aload_n (hi := rfl) (hd := (by decide +kernel : decode cX10_image 12 = .ok (.aload_n 0, 1)))) (
   sndC (sd_get (C := RX10) (T := TX10) (N := 18) (hc := rfl) (hin0 := iX10) (hk := by decide) (hlink := w_527) (hd := (by decide +kernel : decode cX10_image 13 = .ok (.getfield 176, 3)))) (
   sndC (sd_aload_n (hi := rfl) (hd := (by decide +kernel : decode cX10_image 16 = .ok (.aload_n 0, 1)))) (
   sndC (sd_get (C := RX10) (T := TX10) (N := 18) (hc := rfl) (hin0 := iX10) (hk := by decide) (hlink := w_513) (hd := (by decide +kernel : decode cX10_image 17 = .ok (.getfield 18, 3)))) (
   sndC (sd_aload_n (hi := rfl) (hd := (by decide +kernel : decode cX10_image 20 = .ok (.aload_n 0, 1)))) (
   sndC (sd_get (C := RX10) (T := TX10) (N := 18) (hc := rfl) (hin0 := iX10) (hk := by decide) (hlink := w_524) (hd := (by decide +kernel : decode cX10_image 21 = .ok (.getfield 130, 3)))) (
   sndC (sd_aload_n (hi := rfl) (hd := (by decide +kernel : decode cX10_image 27 = .ok (.aload_n 0, 1)))) (
   sndC (sd_get (C := RX10) (T := TX10) (N := 18) (hc := rfl) (hin0 := iX10) (hk := by decide) (hlink := w_524) (hd := (by decide +kernel : decode cX10_image 28 = .ok (.getfield 130, 3)))) (
   sndN))))))))))))))⟩
theorem kX10_image_24 : CallAt mX10_image 24 0 mX0_keep 5 := ⟨by decide +kernel, ⟨_, (by decide +kernel : decode cX10_image 24 = .ok (.invokevirtual 285, 3)), w_950, w_951, w_952⟩⟩

set_option maxRecDepth 20000 in
theorem GX10_back : Good mX10_back := ⟨by decide +kernel, List.mem_of_getElem? (i := 959) (by decide +kernel), inX10, ⟨by decide +kernel, by decide +kernel⟩, by decide, show ∀ q ∈ tX10_back, Snd mX10_back q.1 q.2 from
  sndC (sd_aload_n (hi := rfl) (hd := (by decide +kernel : decode cX10_back 0 = .ok (.aload_n 0, 1)))) (
   sndC (sd_get (C := RX10) (T := TX10) (N := 18) (hc := rfl) (hin0 := iX10) (hk := by decide) (hlink := w_520) (hd := (by decide +kernel : decode cX10_back 1 = .ok (.getfield 61, 3)))) (
   sndC (sd_get (C := RX0) (T := TX0) (N := 8) (hc := rfl) (hin0 := iX0) (hk := by decide) (hlink := w_240) (hd := (by decide +kernel : decode cX10_back 4 = .ok (.getfield 289, 3)))) (
   sndC (sd_if_ne (ht := by decide) (hd := (by decide +kernel : decode cX10_back 7 = .ok (.ifCond .ne 6, 3)))) (
   sndC (sd_bipush (hd := (by decide +kernel : decode cX10_back 10 = .ok (.bipush (-3), 2))) (hv := by decide)) (
   sndC (sd_aload_n (hi := rfl) (hd := (by decide +kernel : decode cX10_back 13 = .ok (.aload_n 0, 1)))) (
   sndC (sd_get (C := RX10) (T := TX10) (N := 18) (hc := rfl) (hin0 := iX10) (hk := by decide) (hlink := w_520) (hd := (by decide +kernel : decode cX10_back 14 = .ok (.getfield 61, 3)))) (
   sndC (sd_aload_n (hi := rfl) (hd := (by decide +kernel : decode cX10_back 17 = .ok (.aload_n 0, 1)))) (
   sndC (sd_get (C := RX10) (T := TX10) (N := 18) (hc := rfl) (hin0 := iX10) (hk := by decide) (hlink := w_511) (hd := (by decide +kernel : decode cX10_back 18 = .ok (.getfield 9, 3)))) (
   sndC (sd_aload_n (hi := rfl) (hd := (by decide +kernel : decode cX10_back 21 = .ok (.aload_n 0, 1)))) (
   sndC (sd_get (C := RX10) (T := TX10) (N := 18) (hc := rfl) (hin0 := iX10) (hk := by decide) (hlink := w_513) (hd := (by decide +kernel : decode cX10_back 22 = .ok (.getfield 18, 3)))) (
   sndC (sd_aload_n (hi := rfl) (hd := (by decide +kernel : decode cX10_back 28 = .ok (.aload_n 0, 1)))) (
   sndC (sd_aload_n (hi := rfl) (hd := (by decide +kernel : decode cX10_back 29 = .ok (.aload_n 0, 1)))) (
   sndC (sd_get (C := RX10) (T := TX10) (N := 18) (hc := rfl) (hin0 := iX10) (hk := by decide) (hlink := w_520) (hd := (by decide +kernel : decode cX10_back 30 = .ok (.getfield 61, 3)))) (
   sndC (sd_get (C := RX0) (T := TX0) (N := 8) (hc := rfl) (hin0 := iX0) (hk := by decide) (hlink := w_242) (hd := (by decide +kernel : decode cX10_back 33 = .ok (.getfield 297, 3)))) (
   sndC (sd_putI (C := RX10) (T := TX10) (N := 18) (hc := rfl) (hin0 := iX10) (hk := by decide) (hlink := w_523) (ty0 := tyX10) (hty := tyX10_ok) (hnm := nmX10) (hfin := rfl) (hi := rfl) (hd := (by decide +kernel : decode cX10_back 36 = .ok (.putfield 71, 3)))) (
   sndC (sd_aload_n (hi := rfl) (hd := (by decide +kernel : decode cX10_back 39 = .ok (.aload_n 0, 1)))) (
   sndC (sd_aload_n (hi := rfl) (hd := (by decide +kernel : decode cX10_back 40 = .ok (.aload_n 0, 1)))) (
   sndC (sd_get (C := RX10) (T := TX10) (N := 18) (hc := rfl) (hin0 := iX10) (hk := by decide) (hlink := w_520) (hd := (by decide +kernel : decode cX10_back 41 = .ok (.getfield 61, 3)))) (
   sndC (sd_get (C := RX0) (T := TX0) (N := 8) (hc := rfl) (hin0 := iX0) (hk := by decide) (hlink := w_246) (hd := (by decide +kernel : decode cX10_back 44 = .ok (.getfield 298, 3)))) (
   sndC (sd_putI (C := RX10) (T := TX10) (N := 18) (hc := rfl) (hin0 := iX10) (hk := by decide) (hlink := w_524) (ty0 := tyX10) (hty := tyX10_ok) (hnm := nmX10) (hfin := rfl) (hi := rfl) (hd := (by decide +kernel : decode cX10_back 47 = .ok (.putfield 130, 3)))) (
   sndC (sd_aload_n (hi := rfl) (hd := (by decide +kernel : decode cX10_back 50 = .ok (.aload_n 0, 1)))) (
   sndC (sd_aload_n (hi := rfl) (hd := (by decide +kernel : decode cX10_back 51 = .ok (.aload_n 0, 1)))) (
   sndC (sd_get (C := RX10) (T := TX10) (N := 18) (hc := rfl) (hin0 := iX10) (hk := by decide) (hlink := w_520) (hd := (by decide +kernel : decode cX10_back 52 = .ok (.getfield 61, 3)))) (
   sndC (sd_get (C := RX0) (T := TX0) (N := 8) (hc := rfl) (hin0 := iX0) (hk := by decide) (hlink := w_244) (hd := (by decide +kernel : decode cX10_back 55 = .ok (.getfield 301, 3)))) (
   sndC (sd_pop (hd := (by decide +kernel : decode cX10_back 61 = .ok (.pop, 1)))) (
   sndC (sd_aload_n (hi := rfl) (hd := (by decide +kernel : decode cX10_back 62 = .ok (.aload_n 0, 1)))) (
   sndC (sd_get (C := RX10) (T := TX10) (N := 18) (hc := rfl) (hin0 := iX10) (hk := by decide) (hlink := w_524) (hd := (by decide +kernel : decode cX10_back 63 = .ok (.getfield 130, 3)))) (
   sndN))))))))))))))))))))))))))))⟩
theorem kX10_back_25 : CallAt mX10_back 25 0 mX0_giveBack 2 := ⟨by decide +kernel, ⟨_, (by decide +kernel : decode cX10_back 25 = .ok (.invokevirtual 293, 3)), w_960, w_961, w_962⟩⟩
theorem kX10_back_58 : CallAt mX10_back 58 0 mX10_force 1 := ⟨by decide +kernel, ⟨_, (by decide +kernel : decode cX10_back 58 = .ok (.invokevirtual 303, 3)), w_964, w_672, w_673⟩⟩

set_option maxRecDepth 20000 in
theorem GX10_count : Good mX10_count := ⟨by decide +kernel, List.mem_of_getElem? (i := 968) (by decide +kernel), inX10, ⟨by decide +kernel, by decide +kernel⟩, by decide, show ∀ q ∈ tX10_count, Snd mX10_count q.1 q.2 from
  sndC (sd_iload_n (hi := rfl) (hd := (by decide +kernel : decode cX10_count 0 = .ok (.iload_n 1, 1)))) (
   sndC (sd_tsw (hd := (by decide +kernel : decode cX10_count 1 = .ok (.tableswitch 63 0 4 #[35, 40, 48, 53, 58], 35))) (hok := by decide +kernel)) (
   sndC (sd_aload_n (hi := rfl) (hd := (by decide +kernel : decode cX10_count 36 = .ok (.aload_n 0, 1)))) (
   sndC (sd_get (C := RX10) (T := TX10) (N := 18) (hc := rfl) (hin0 := iX10) (hk := by decide) (hlink := w_524) (hd := (by decide +kernel : decode cX10_count 37 = .ok (.getfield 130, 3)))) (
   sndC (sd_aload_n (hi := rfl) (hd := (by decide +kernel : decode cX10_count 41 = .ok (.aload_n 0, 1)))) (
   sndC (sd_aload_n (hi := rfl) (hd := (by decide +kernel : decode cX10_count 49 = .ok (.aload_n 0, 1)))) (
   sndC (sd_get (C := RX10) (T := TX10) (N := 18) (hc := rfl) (hin0 := iX10) (hk := by decide) (hlink := w_525) (hd := (by decide +kernel : decode cX10_count 50 = .ok (.getfield 75, 3)))) (
   sndC (sd_aload_n (hi := rfl) (hd := (by decide +kernel : decode cX10_count 54 = .ok (.aload_n 0, 1)))) (
   sndC (sd_get (C := RX10) (T := TX10) (N := 18) (hc := rfl) (hin0 := iX10) (hk := by decide) (hlink := w_526) (hd := (by decide +kernel : decode cX10_count 55 = .ok (.getfield 165, 3)))) (
   sndC (sd_aload_n (hi := rfl) (hd := (by decide +kernel : decode cX10_count 59 = .ok (.aload_n 0, 1)))) (
   sndC (sd_get (C := RX10) (T := TX10) (N := 18) (hc := rfl) (hin0 := iX10) (hk := by decide) (hlink := w_527) (hd := (by decide +kernel : decode cX10_count 60 = .ok (.getfield 176, 3)))) (
   sndC (sd_bipush (hd := (by decide +kernel : decode cX10_count 64 = .ok (.bipush (-2), 2))) (hv := by decide)) (
   sndN))))))))))))⟩
theorem kX10_count_42 : CallAt mX10_count 42 0 mX10_sentBits 0 := ⟨by decide +kernel, ⟨_, (by decide +kernel : decode cX10_count 42 = .ok (.invokevirtual 183, 3)), w_723, w_725, w_17⟩⟩
theorem kX10_count_45 : CallAt mX10_count 45 1 mJ6_bitCount_0f7a4 1 := ⟨by decide +kernel, ⟨_, (by decide +kernel : decode cX10_count 45 = .ok (.invokestatic 192, 3)), w_755, w_617⟩⟩

set_option maxRecDepth 20000 in
theorem GX10_sheet : Good mX10_sheet := ⟨by decide +kernel, List.mem_of_getElem? (i := 972) (by decide +kernel), inX10, ⟨by decide +kernel, by decide +kernel⟩, by decide, show ∀ q ∈ tX10_sheet, Snd mX10_sheet q.1 q.2 from
  sndC (sd_aload_n (hi := rfl) (hd := (by decide +kernel : decode cX10_sheet 0 = .ok (.aload_n 0, 1)))) (
   sndC (sd_iload_n (hi := rfl) (hd := (by decide +kernel : decode cX10_sheet 1 = .ok (.iload_n 1, 1)))) (
   sndC (sd_astore (hd := (by decide +kernel : decode cX10_sheet 5 = .ok (.astore 4, 2)))) (
   sndC (sd_aload (hd := (by decide +kernel : decode cX10_sheet 7 = .ok (.aload 4, 2)))) (
   sndC (sd_ifnull (ht := by decide) (hd := (by decide +kernel : decode cX10_sheet 9 = .ok (.ifnull 13, 3)))) (
   sndC (sd_iload_n (hi := rfl) (hd := (by decide +kernel : decode cX10_sheet 12 = .ok (.iload_n 2, 1)))) (
   sndC (sd_iconst (hd := (by decide +kernel : decode cX10_sheet 13 = .ok (.iconst (-1), 1))) (hv := by decide)) (
   sndC (sd_cmp_lt (ht := by decide) (hd := (by decide +kernel : decode cX10_sheet 14 = .ok (.if_icmp .lt 8, 3)))) (
   sndC (sd_iload_n (hi := rfl) (hd := (by decide +kernel : decode cX10_sheet 17 = .ok (.iload_n 2, 1)))) (
   sndC (sd_iconst (hd := (by decide +kernel : decode cX10_sheet 18 = .ok (.iconst 2, 1))) (hv := by decide)) (
   sndC (sd_cmp_le (ht := by decide) (hd := (by decide +kernel : decode cX10_sheet 19 = .ok (.if_icmp .le 6, 3)))) (
   sndC (sd_bipush (hd := (by decide +kernel : decode cX10_sheet 22 = .ok (.bipush (-2), 2))) (hv := by decide)) (
   sndC (sd_iload_n (hi := rfl) (hd := (by decide +kernel : decode cX10_sheet 25 = .ok (.iload_n 2, 1)))) (
   sndC (sd_iconst (hd := (by decide +kernel : decode cX10_sheet 26 = .ok (.iconst (-1), 1))) (hv := by decide)) (
   sndC (sd_cmp_ne (ht := by decide) (hd := (by decide +kernel : decode cX10_sheet 27 = .ok (.if_icmp .ne 12, 3)))) (
   sndC (sd_aload (hd := (by decide +kernel : decode cX10_sheet 30 = .ok (.aload 4, 2)))) (
   sndC (sd_iconst (hd := (by decide +kernel : decode cX10_sheet 32 = .ok (.iconst (-1), 1))) (hv := by decide)) (
   sndC (sd_iconst (hd := (by decide +kernel : decode cX10_sheet 33 = .ok (.iconst 0, 1))) (hv := by decide)) (
   sndC (sd_iconst (hd := (by decide +kernel : decode cX10_sheet 37 = .ok (.iconst 1, 1))) (hv := by decide)) (
   sndC (sd_iload_n (hi := rfl) (hd := (by decide +kernel : decode cX10_sheet 39 = .ok (.iload_n 3, 1)))) (
   sndC (sd_bipush (hd := (by decide +kernel : decode cX10_sheet 40 = .ok (.bipush 40, 2))) (hv := by decide)) (
   sndC (sd_cmp_le (ht := by decide) (hd := (by decide +kernel : decode cX10_sheet 42 = .ok (.if_icmp .le 6, 3)))) (
   sndC (sd_bipush (hd := (by decide +kernel : decode cX10_sheet 45 = .ok (.bipush (-2), 2))) (hv := by decide)) (
   sndC (sd_iload_n (hi := rfl) (hd := (by decide +kernel : decode cX10_sheet 48 = .ok (.iload_n 3, 1)))) (
   sndC (sd_if_ge (ht := by decide) (hd := (by decide +kernel : decode cX10_sheet 49 = .ok (.ifCond .ge 6, 3)))) (
   sndC (sd_bipush (hd := (by decide +kernel : decode cX10_sheet 52 = .ok (.bipush (-14), 2))) (hv := by decide)) (
   sndC (sd_aload (hd := (by decide +kernel : decode cX10_sheet 55 = .ok (.aload 4, 2)))) (
   sndC (sd_iload_n (hi := rfl) (hd := (by decide +kernel : decode cX10_sheet 57 = .ok (.iload_n 2, 1)))) (
   sndC (sd_iload_n (hi := rfl) (hd := (by decide +kernel : decode cX10_sheet 58 = .ok (.iload_n 3, 1)))) (
   sndC (sd_iconst (hd := (by decide +kernel : decode cX10_sheet 62 = .ok (.iconst 1, 1))) (hv := by decide)) (
   sndN))))))))))))))))))))))))))))))⟩
theorem kX10_sheet_2 : CallAt mX10_sheet 2 0 mX10_sheetAt 1 := ⟨by decide +kernel, ⟨_, (by decide +kernel : decode cX10_sheet 2 = .ok (.invokevirtual 239, 3)), w_877, w_879, w_37⟩⟩
theorem kX10_sheet_34 : CallAt mX10_sheet 34 0 mX6_become 2 := ⟨by decide +kernel, ⟨_, (by decide +kernel : decode cX10_sheet 34 = .ok (.invokevirtual 272, 3)), w_919, w_920, w_921⟩⟩
theorem kX10_sheet_59 : CallAt mX10_sheet 59 0 mX6_become 2 := ⟨by decide +kernel, ⟨_, (by decide +kernel : decode cX10_sheet 59 = .ok (.invokevirtual 272, 3)), w_919, w_920, w_921⟩⟩

set_option maxRecDepth 20000 in
theorem GX10_cell : Good mX10_cell := ⟨by decide +kernel, List.mem_of_getElem? (i := 976) (by decide +kernel), inX10, ⟨by decide +kernel, by decide +kernel⟩, by decide, show ∀ q ∈ tX10_cell, Snd mX10_cell q.1 q.2 from
  sndC (sd_aload_n (hi := rfl) (hd := (by decide +kernel : decode cX10_cell 0 = .ok (.aload_n 0, 1)))) (
   sndC (sd_iload_n (hi := rfl) (hd := (by decide +kernel : decode cX10_cell 1 = .ok (.iload_n 1, 1)))) (
   sndC (sd_astore (hd := (by decide +kernel : decode cX10_cell 5 = .ok (.astore 4, 2)))) (
   sndC (sd_aload (hd := (by decide +kernel : decode cX10_cell 7 = .ok (.aload 4, 2)))) (
   sndC (sd_ifnonnull (ht := by decide) (hd := (by decide +kernel : decode cX10_cell 9 = .ok (.ifnonnull 6, 3)))) (
   sndC (sd_bipush (hd := (by decide +kernel : decode cX10_cell 12 = .ok (.bipush (-2), 2))) (hv := by decide)) (
   sndC (sd_aload (hd := (by decide +kernel : decode cX10_cell 15 = .ok (.aload 4, 2)))) (
   sndC (sd_get (C := RX6) (T := TX6) (N := 3) (hc := rfl) (hin0 := iX6) (hk := by decide) (hlink := w_320) (hd := (by decide +kernel : decode cX10_cell 17 = .ok (.getfield 243, 3)))) (
   sndC (sd_iconst (hd := (by decide +kernel : decode cX10_cell 20 = .ok (.iconst (-1), 1))) (hv := by decide)) (
   sndC (sd_cmp_ne (ht := by decide) (hd := (by decide +kernel : decode cX10_cell 21 = .ok (.if_icmp .ne 6, 3)))) (
   sndC (sd_bipush (hd := (by decide +kernel : decode cX10_cell 24 = .ok (.bipush (-11), 2))) (hv := by decide)) (
   sndC (sd_aload (hd := (by decide +kernel : decode cX10_cell 27 = .ok (.aload 4, 2)))) (
   sndC (sd_iload_n (hi := rfl) (hd := (by decide +kernel : decode cX10_cell 29 = .ok (.iload_n 2, 1)))) (
   sndC (sd_if_ne (ht := by decide) (hd := (by decide +kernel : decode cX10_cell 33 = .ok (.ifCond .ne 6, 3)))) (
   sndC (sd_bipush (hd := (by decide +kernel : decode cX10_cell 36 = .ok (.bipush (-12), 2))) (hv := by decide)) (
   sndC (sd_aload (hd := (by decide +kernel : decode cX10_cell 39 = .ok (.aload 4, 2)))) (
   sndC (sd_iload_n (hi := rfl) (hd := (by decide +kernel : decode cX10_cell 41 = .ok (.iload_n 2, 1)))) (
   sndC (sd_iload_n (hi := rfl) (hd := (by decide +kernel : decode cX10_cell 42 = .ok (.iload_n 3, 1)))) (
   sndC (sd_iconst (hd := (by decide +kernel : decode cX10_cell 46 = .ok (.iconst 1, 1))) (hv := by decide)) (
   sndN)))))))))))))))))))⟩
theorem kX10_cell_2 : CallAt mX10_cell 2 0 mX10_sheetAt 1 := ⟨by decide +kernel, ⟨_, (by decide +kernel : decode cX10_cell 2 = .ok (.invokevirtual 239, 3)), w_877, w_879, w_37⟩⟩
theorem kX10_cell_30 : CallAt mX10_cell 30 0 mX6_holds 1 := ⟨by decide +kernel, ⟨_, (by decide +kernel : decode cX10_cell 30 = .ok (.invokevirtual 306, 3)), w_977, w_978, w_979⟩⟩
theorem kX10_cell_43 : CallAt mX10_cell 43 0 mX6_put 2 := ⟨by decide +kernel, ⟨_, (by decide +kernel : decode cX10_cell 43 = .ok (.invokevirtual 274, 3)), w_924, w_925, w_926⟩⟩

set_option maxRecDepth 20000 in
theorem GX10_copy : Good mX10_copy := ⟨by decide +kernel, List.mem_of_getElem? (i := 984) (by decide +kernel), inX10, ⟨by decide +kernel, by decide +kernel⟩, by decide, show ∀ q ∈ tX10_copy, Snd mX10_copy q.1 q.2 from
  sndC (sd_aload_n (hi := rfl) (hd := (by decide +kernel : decode cX10_copy 0 = .ok (.aload_n 0, 1)))) (
   sndC (sd_iload_n (hi := rfl) (hd := (by decide +kernel : decode cX10_copy 1 = .ok (.iload_n 1, 1)))) (
   sndC (sd_astore (hd := (by decide +kernel : decode cX10_copy 5 = .ok (.astore 6, 2)))) (
   sndC (sd_aload_n (hi := rfl) (hd := (by decide +kernel : decode cX10_copy 7 = .ok (.aload_n 0, 1)))) (
   sndC (sd_iload_n (hi := rfl) (hd := (by decide +kernel : decode cX10_copy 8 = .ok (.iload_n 3, 1)))) (
   sndC (sd_astore (hd := (by decide +kernel : decode cX10_copy 12 = .ok (.astore 7, 2)))) (
   sndC (sd_aload (hd := (by decide +kernel : decode cX10_copy 14 = .ok (.aload 6, 2)))) (
   sndC (sd_ifnull (ht := by decide) (hd := (by decide +kernel : decode cX10_copy 16 = .ok (.ifnull 8, 3)))) (
   sndC (sd_aload (hd := (by decide +kernel : decode cX10_copy 19 = .ok (.aload 7, 2)))) (
   sndC (sd_ifnonnull (ht := by decide) (hd := (by decide +kernel : decode cX10_copy 21 = .ok (.ifnonnull 6, 3)))) (
   sndC (sd_bipush (hd := (by decide +kernel : decode cX10_copy 24 = .ok (.bipush (-2), 2))) (hv := by decide)) (
   sndC (sd_aload (hd := (by decide +kernel : decode cX10_copy 27 = .ok (.aload 6, 2)))) (
   sndC (sd_get (C := RX6) (T := TX6) (N := 3) (hc := rfl) (hin0 := iX6) (hk := by decide) (hlink := w_320) (hd := (by decide +kernel : decode cX10_copy 29 = .ok (.getfield 243, 3)))) (
   sndC (sd_iconst (hd := (by decide +kernel : decode cX10_copy 32 = .ok (.iconst (-1), 1))) (hv := by decide)) (
   sndC (sd_cmp_eq (ht := by decide) (hd := (by decide +kernel : decode cX10_copy 33 = .ok (.if_icmp .eq 12, 3)))) (
   sndC (sd_aload (hd := (by decide +kernel : decode cX10_copy 36 = .ok (.aload 7, 2)))) (
   sndC (sd_get (C := RX6) (T := TX6) (N := 3) (hc := rfl) (hin0 := iX6) (hk := by decide) (hlink := w_320) (hd := (by decide +kernel : decode cX10_copy 38 = .ok (.getfield 243, 3)))) (
   sndC (sd_iconst (hd := (by decide +kernel : decode cX10_copy 41 = .ok (.iconst (-1), 1))) (hv := by decide)) (
   sndC (sd_cmp_ne (ht := by decide) (hd := (by decide +kernel : decode cX10_copy 42 = .ok (.if_icmp .ne 6, 3)))) (
   sndC (sd_bipush (hd := (by decide +kernel : decode cX10_copy 45 = .ok (.bipush (-11), 2))) (hv := by decide)) (
   sndC (sd_aload (hd := (by decide +kernel : decode cX10_copy 48 = .ok (.aload 6, 2)))) (
   sndC (sd_get (C := RX6) (T := TX6) (N := 3) (hc := rfl) (hin0 := iX6) (hk := by decide) (hlink := w_320) (hd := (by decide +kernel : decode cX10_copy 50 = .ok (.getfield 243, 3)))) (
   sndC (sd_aload (hd := (by decide +kernel : decode cX10_copy 53 = .ok (.aload 7, 2)))) (
   sndC (sd_get (C := RX6) (T := TX6) (N := 3) (hc := rfl) (hin0 := iX6) (hk := by decide) (hlink := w_320) (hd := (by decide +kernel : decode cX10_copy 55 = .ok (.getfield 243, 3)))) (
   sndC (sd_cmp_eq (ht := by decide) (hd := (by decide +kernel : decode cX10_copy 58 = .ok (.if_icmp .eq 6, 3)))) (
   sndC (sd_bipush (hd := (by decide +kernel : decode cX10_copy 61 = .ok (.bipush (-13), 2))) (hv := by decide)) (
   sndC (sd_aload (hd := (by decide +kernel : decode cX10_copy 64 = .ok (.aload 6, 2)))) (
   sndC (sd_iload_n (hi := rfl) (hd := (by decide +kernel : decode cX10_copy 66 = .ok (.iload_n 2, 1)))) (
   sndC (sd_iload (hd := (by decide +kernel : decode cX10_copy 67 = .ok (.iload 5, 2)))) (
   sndC (sd_if_eq (ht := by decide) (hd := (by decide +kernel : decode cX10_copy 72 = .ok (.ifCond .eq 15, 3)))) (
   sndC (sd_aload (hd := (by decide +kernel : decode cX10_copy 75 = .ok (.aload 7, 2)))) (
   sndC (sd_iload (hd := (by decide +kernel : decode cX10_copy 77 = .ok (.iload 4, 2)))) (
   sndC (sd_iload (hd := (by decide +kernel : decode cX10_copy 79 = .ok (.iload 5, 2)))) (
   sndC (sd_if_ne (ht := by decide) (hd := (by decide +kernel : decode cX10_copy 84 = .ok (.ifCond .ne 6, 3)))) (
   sndC (sd_bipush (hd := (by decide +kernel : decode cX10_copy 87 = .ok (.bipush (-12), 2))) (hv := by decide)) (
   sndC (sd_aload (hd := (by decide +kernel : decode cX10_copy 90 = .ok (.aload 6, 2)))) (
   sndC (sd_get (C := RX6) (T := TX6) (N := 3) (hc := rfl) (hin0 := iX6) (hk := by decide) (hlink := w_318) (hd := (by decide +kernel : decode cX10_copy 92 = .ok (.getfield 312, 3)))) (
   sndC (sd_iload_n (hi := rfl) (hd := (by decide +kernel : decode cX10_copy 95 = .ok (.iload_n 2, 1)))) (
   sndC (sd_aload (hd := (by decide +kernel : decode cX10_copy 96 = .ok (.aload 7, 2)))) (
   sndC (sd_get (C := RX6) (T := TX6) (N := 3) (hc := rfl) (hin0 := iX6) (hk := by decide) (hlink := w_318) (hd := (by decide +kernel : decode cX10_copy 98 = .ok (.getfield 312, 3)))) (
   sndC (sd_iload (hd := (by decide +kernel : decode cX10_copy 101 = .ok (.iload 4, 2)))) (
   sndC (sd_iload (hd := (by decide +kernel : decode cX10_copy 103 = .ok (.iload 5, 2)))) (
   sndC (sd_copy (hl := w_989) (hn0 := w_496) (hs0 := w_495) (hi0 := w_135) (hd := (by decide +kernel : decode cX10_copy 105 = .ok (.invokestatic 315, 3)))) (
   sndC (sd_iload (hd := (by decide +kernel : decode cX10_copy 108 = .ok (.iload 5, 2)))) (
   sndN))))))))))))))))))))))))))))))))))))))))))))⟩
theorem kX10_copy_2 : CallAt mX10_copy 2 0 mX10_sheetAt 1 := ⟨by decide +kernel, ⟨_, (by decide +kernel : decode cX10_copy 2 = .ok (.invokevirtual 239, 3)), w_877, w_879, w_37⟩⟩
theorem kX10_copy_9 : CallAt mX10_copy 9 0 mX10_sheetAt 1 := ⟨by decide +kernel, ⟨_, (by decide +kernel : decode cX10_copy 9 = .ok (.invokevirtual 239, 3)), w_877, w_879, w_37⟩⟩
theorem kX10_copy_69 : CallAt mX10_copy 69 0 mX6_holdsAll 2 := ⟨by decide +kernel, ⟨_, (by decide +kernel : decode cX10_copy 69 = .ok (.invokevirtual 309, 3)), w_985, w_986, w_987⟩⟩
theorem kX10_copy_81 : CallAt mX10_copy 81 0 mX6_holdsAll 2 := ⟨by decide +kernel, ⟨_, (by decide +kernel : decode cX10_copy 81 = .ok (.invokevirtual 309, 3)), w_985, w_986, w_987⟩⟩

set_option maxRecDepth 20000 in
theorem GX10_witnesses : Good mX10_witnesses := ⟨by decide +kernel, List.mem_of_getElem? (i := 993) (by decide +kernel), inX10, ⟨by decide +kernel, by decide +kernel⟩, by decide, show ∀ q ∈ tX10_witnesses, Snd mX10_witnesses q.1 q.2 from
  sndC (sd_aload_n (hi := rfl) (hd := (by decide +kernel : decode cX10_witnesses 0 = .ok (.aload_n 0, 1)))) (
   sndC (sd_iload_n (hi := rfl) (hd := (by decide +kernel : decode cX10_witnesses 1 = .ok (.iload_n 1, 1)))) (
   sndC (sd_astore (hd := (by decide +kernel : decode cX10_witnesses 5 = .ok (.astore 5, 2)))) (
   sndC (sd_aload (hd := (by decide +kernel : decode cX10_witnesses 7 = .ok (.aload 5, 2)))) (
   sndC (sd_ifnull (ht := by decide) (hd := (by decide +kernel : decode cX10_witnesses 9 = .ok (.ifnull 21, 3)))) (
   sndC (sd_iload_n (hi := rfl) (hd := (by decide +kernel : decode cX10_witnesses 12 = .ok (.iload_n 2, 1)))) (
   sndC (sd_iconst (hd := (by decide +kernel : decode cX10_witnesses 13 = .ok (.iconst 2, 1))) (hv := by decide)) (
   sndC (sd_if_eq (ht := by decide) (hd := (by decide +kernel : decode cX10_witnesses 17 = .ok (.ifCond .eq 13, 3)))) (
   sndC (sd_iload (hd := (by decide +kernel : decode cX10_witnesses 20 = .ok (.iload 4, 2)))) (
   sndC (sd_bipush (hd := (by decide +kernel : decode cX10_witnesses 22 = .ok (.bipush 6, 2))) (hv := by decide)) (
   sndC (sd_if_ne (ht := by decide) (hd := (by decide +kernel : decode cX10_witnesses 27 = .ok (.ifCond .ne 6, 3)))) (
   sndC (sd_bipush (hd := (by decide +kernel : decode cX10_witnesses 30 = .ok (.bipush (-2), 2))) (hv := by decide)) (
   sndC (sd_aload (hd := (by decide +kernel : decode cX10_witnesses 33 = .ok (.aload 5, 2)))) (
   sndC (sd_get (C := RX6) (T := TX6) (N := 3) (hc := rfl) (hin0 := iX6) (hk := by decide) (hlink := w_320) (hd := (by decide +kernel : decode cX10_witnesses 35 = .ok (.getfield 243, 3)))) (
   sndC (sd_iconst (hd := (by decide +kernel : decode cX10_witnesses 38 = .ok (.iconst (-1), 1))) (hv := by decide)) (
   sndC (sd_cmp_ne (ht := by decide) (hd := (by decide +kernel : decode cX10_witnesses 39 = .ok (.if_icmp .ne 6, 3)))) (
   sndC (sd_bipush (hd := (by decide +kernel : decode cX10_witnesses 42 = .ok (.bipush (-11), 2))) (hv := by decide)) (
   sndC (sd_aload (hd := (by decide +kernel : decode cX10_witnesses 45 = .ok (.aload 5, 2)))) (
   sndC (sd_get (C := RX6) (T := TX6) (N := 3) (hc := rfl) (hin0 := iX6) (hk := by decide) (hlink := w_320) (hd := (by decide +kernel : decode cX10_witnesses 47 = .ok (.getfield 243, 3)))) (
   sndC (sd_iload_n (hi := rfl) (hd := (by decide +kernel : decode cX10_witnesses 50 = .ok (.iload_n 2, 1)))) (
   sndC (sd_cmp_eq (ht := by decide) (hd := (by decide +kernel : decode cX10_witnesses 51 = .ok (.if_icmp .eq 6, 3)))) (
   sndC (sd_bipush (hd := (by decide +kernel : decode cX10_witnesses 54 = .ok (.bipush (-13), 2))) (hv := by decide)) (
   sndC (sd_iconst (hd := (by decide +kernel : decode cX10_witnesses 57 = .ok (.iconst 0, 1))) (hv := by decide)) (
   sndC (sd_istore (hd := (by decide +kernel : decode cX10_witnesses 58 = .ok (.istore 6, 2)))) (
   sndC (sd_iconst (hd := (by decide +kernel : decode cX10_witnesses 60 = .ok (.iconst 0, 1))) (hv := by decide)) (
   sndC (sd_istore (hd := (by decide +kernel : decode cX10_witnesses 61 = .ok (.istore 7, 2)))) (
   sndC (sd_iload (hd := (by decide +kernel : decode cX10_witnesses 63 = .ok (.iload 7, 2)))) (
   sndC (sd_iload (hd := (by decide +kernel : decode cX10_witnesses 65 = .ok (.iload 4, 2)))) (
   sndC (sd_cmp_ge (ht := by decide) (hd := (by decide +kernel : decode cX10_witnesses 67 = .ok (.if_icmp .ge 66, 3)))) (
   sndC (sd_iload_n (hi := rfl) (hd := (by decide +kernel : decode cX10_witnesses 70 = .ok (.iload_n 3, 1)))) (
   sndC (sd_iconst (hd := (by decide +kernel : decode cX10_witnesses 71 = .ok (.iconst 3, 1))) (hv := by decide)) (
   sndC (sd_iload (hd := (by decide +kernel : decode cX10_witnesses 72 = .ok (.iload 7, 2)))) (
   sndC (sd_imul (hd := (by decide +kernel : decode cX10_witnesses 74 = .ok (.imul, 1)))) (
   sndC (sd_iadd (hd := (by decide +kernel : decode cX10_witnesses 75 = .ok (.iadd, 1)))) (
   sndC (sd_istore (hd := (by decide +kernel : decode cX10_witnesses 76 = .ok (.istore 8, 2)))) (
   sndC (sd_aload (hd := (by decide +kernel : decode cX10_witnesses 78 = .ok (.aload 5, 2)))) (
   sndC (sd_iload (hd := (by decide +kernel : decode cX10_witnesses 80 = .ok (.iload 8, 2)))) (
   sndC (sd_iconst (hd := (by decide +kernel : decode cX10_witnesses 82 = .ok (.iconst 3, 1))) (hv := by decide)) (
   sndC (sd_if_ne (ht := by decide) (hd := (by decide +kernel : decode cX10_witnesses 86 = .ok (.ifCond .ne 6, 3)))) (
   sndC (sd_bipush (hd := (by decide +kernel : decode cX10_witnesses 89 = .ok (.bipush (-12), 2))) (hv := by decide)) (
   sndC (sd_aload_n (hi := rfl) (hd := (by decide +kernel : decode cX10_witnesses 92 = .ok (.aload_n 0, 1)))) (
   sndC (sd_aload (hd := (by decide +kernel : decode cX10_witnesses 93 = .ok (.aload 5, 2)))) (
   sndC (sd_iload (hd := (by decide +kernel : decode cX10_witnesses 95 = .ok (.iload 8, 2)))) (
   sndC (sd_aload (hd := (by decide +kernel : decode cX10_witnesses 100 = .ok (.aload 5, 2)))) (
   sndC (sd_iload (hd := (by decide +kernel : decode cX10_witnesses 102 = .ok (.iload 8, 2)))) (
   sndC (sd_iconst (hd := (by decide +kernel : decode cX10_witnesses 104 = .ok (.iconst 1, 1))) (hv := by decide)) (
   sndC (sd_iadd (hd := (by decide +kernel : decode cX10_witnesses 105 = .ok (.iadd, 1)))) (
   sndC (sd_aload (hd := (by decide +kernel : decode cX10_witnesses 109 = .ok (.aload 5, 2)))) (
   sndC (sd_iload (hd := (by decide +kernel : decode cX10_witnesses 111 = .ok (.iload 8, 2)))) (
   sndC (sd_iconst (hd := (by decide +kernel : decode cX10_witnesses 113 = .ok (.iconst 2, 1))) (hv := by decide)) (
   sndC (sd_iadd (hd := (by decide +kernel : decode cX10_witnesses 114 = .ok (.iadd, 1)))) (
   sndC (sd_if_lt (ht := by decide) (hd := (by decide +kernel : decode cX10_witnesses 121 = .ok (.ifCond .lt 6, 3)))) (
   sndC (sd_iinc (hv := by decide) (hd := (by decide +kernel : decode cX10_witnesses 124 = .ok (.iinc 6 1, 3)))) (
   sndC (sd_iinc (hv := by decide) (hd := (by decide +kernel : decode cX10_witnesses 127 = .ok (.iinc 7 1, 3)))) (
   sndC (sd_goto (ht := by decide) (hd := (by decide +kernel : decode cX10_witnesses 130 = .ok (.goto (-67), 3)))) (
   sndC (sd_iload (hd := (by decide +kernel : decode cX10_witnesses 133 = .ok (.iload 6, 2)))) (
   sndN))))))))))))))))))))))))))))))))))))))))))))))))))))))))⟩
theorem kX10_witnesses_2 : CallAt mX10_witnesses 2 0 mX10_sheetAt 1 := ⟨by decide +kernel, ⟨_, (by decide +kernel : decode cX10_witnesses 2 = .ok (.invokevirtual 239, 3)), w_877, w_879, w_37⟩⟩
theorem kX10_witnesses_14 : CallAt mX10_witnesses 14 1 mX10_isWithin 2 := ⟨by decide +kernel, ⟨_, (by decide +kernel : decode cX10_witnesses 14 = .ok (.invokestatic 126, 3)), w_574, w_575⟩⟩
theorem kX10_witnesses_24 : CallAt mX10_witnesses 24 1 mX10_isWithin 2 := ⟨by decide +kernel, ⟨_, (by decide +kernel : decode cX10_witnesses 24 = .ok (.invokestatic 126, 3)), w_574, w_575⟩⟩
theorem kX10_witnesses_83 : CallAt mX10_witnesses 83 0 mX6_holdsAll 2 := ⟨by decide +kernel, ⟨_, (by decide +kernel : decode cX10_witnesses 83 = .ok (.invokevirtual 309, 3)), w_985, w_986, w_987⟩⟩
theorem kX10_witnesses_97 : CallAt mX10_witnesses 97 0 mX6_item 1 := ⟨by decide +kernel, ⟨_, (by decide +kernel : decode cX10_witnesses 97 = .ok (.invokevirtual 321, 3)), w_885, w_886, w_887⟩⟩
theorem kX10_witnesses_106 : CallAt mX10_witnesses 106 0 mX6_item 1 := ⟨by decide +kernel, ⟨_, (by decide +kernel : decode cX10_witnesses 106 = .ok (.invokevirtual 321, 3)), w_885, w_886, w_887⟩⟩
theorem kX10_witnesses_115 : CallAt mX10_witnesses 115 0 mX6_item 1 := ⟨by decide +kernel, ⟨_, (by decide +kernel : decode cX10_witnesses 115 = .ok (.invokevirtual 321, 3)), w_885, w_886, w_887⟩⟩
theorem kX10_witnesses_118 : CallAt mX10_witnesses 118 0 mX10_witness 3 := ⟨by decide +kernel, ⟨_, (by decide +kernel : decode cX10_witnesses 118 = .ok (.invokevirtual 324, 3)), w_994, w_594, w_595⟩⟩

set_option maxRecDepth 20000 in
theorem GX10_taken : Good mX10_taken := ⟨by decide +kernel, List.mem_of_getElem? (i := 998) (by decide +kernel), inX10, ⟨by decide +kernel, by decide +kernel⟩, by decide, show ∀ q ∈ tX10_taken, Snd mX10_taken q.1 q.2 from
  sndC (sd_iload_n (hi := rfl) (hd := (by decide +kernel : decode cX10_taken 0 = .ok (.iload_n 2, 1)))) (
   sndC (sd_if_ne (ht := by decide) (hd := (by decide +kernel : decode cX10_taken 4 = .ok (.ifCond .ne 6, 3)))) (
   sndC (sd_bipush (hd := (by decide +kernel : decode cX10_taken 7 = .ok (.bipush (-2), 2))) (hv := by decide)) (
   sndC (sd_aload_n (hi := rfl) (hd := (by decide +kernel : decode cX10_taken 10 = .ok (.aload_n 0, 1)))) (
   sndC (sd_iload_n (hi := rfl) (hd := (by decide +kernel : decode cX10_taken 11 = .ok (.iload_n 1, 1)))) (
   sndC (sd_astore_n (hi := rfl) (hd := (by decide +kernel : decode cX10_taken 15 = .ok (.astore_n 3, 1)))) (
   sndC (sd_aload_n (hi := rfl) (hd := (by decide +kernel : decode cX10_taken 16 = .ok (.aload_n 3, 1)))) (
   sndC (sd_ifnonnull (ht := by decide) (hd := (by decide +kernel : decode cX10_taken 17 = .ok (.ifnonnull 6, 3)))) (
   sndC (sd_bipush (hd := (by decide +kernel : decode cX10_taken 20 = .ok (.bipush (-11), 2))) (hv := by decide)) (
   sndC (sd_aload_n (hi := rfl) (hd := (by decide +kernel : decode cX10_taken 23 = .ok (.aload_n 3, 1)))) (
   sndC (sd_get (C := RX9) (T := TX9) (N := 10) (hc := rfl) (hin0 := iX9) (hk := by decide) (hlink := w_276) (hd := (by decide +kernel : decode cX10_taken 24 = .ok (.getfield 154, 3)))) (
   sndC (sd_iload_n (hi := rfl) (hd := (by decide +kernel : decode cX10_taken 27 = .ok (.iload_n 2, 1)))) (
   sndC (sd_if_eq (ht := by decide) (hd := (by decide +kernel : decode cX10_taken 31 = .ok (.ifCond .eq 10, 3)))) (
   sndC (sd_aload_n (hi := rfl) (hd := (by decide +kernel : decode cX10_taken 34 = .ok (.aload_n 3, 1)))) (
   sndC (sd_get (C := RX9) (T := TX9) (N := 10) (hc := rfl) (hin0 := iX9) (hk := by decide) (hlink := w_279) (hd := (by decide +kernel : decode cX10_taken 35 = .ok (.getfield 145, 3)))) (
   sndC (sd_goto (ht := by decide) (hd := (by decide +kernel : decode cX10_taken 38 = .ok (.goto 5, 3)))) (
   sndC (sd_bipush (hd := (by decide +kernel : decode cX10_taken 41 = .ok (.bipush (-13), 2))) (hv := by decide)) (
   sndN)))))))))))))))))⟩
theorem kX10_taken_1 : CallAt mX10_taken 1 1 mX1_isKind 1 := ⟨by decide +kernel, ⟨_, (by decide +kernel : decode cX10_taken 1 = .ok (.invokestatic 120, 3)), w_597, w_598⟩⟩
theorem kX10_taken_12 : CallAt mX10_taken 12 0 mX10_witnessAt 1 := ⟨by decide +kernel, ⟨_, (by decide +kernel : decode cX10_taken 12 = .ok (.invokevirtual 112, 3)), w_586, w_588, w_11⟩⟩
theorem kX10_taken_28 : CallAt mX10_taken 28 1 mX1_isUnder 2 := ⟨by decide +kernel, ⟨_, (by decide +kernel : decode cX10_taken 28 = .ok (.invokestatic 328, 3)), w_999, w_1000⟩⟩

set_option maxRecDepth 20000 in
theorem GX10_isWithin : Good mX10_isWithin := ⟨by decide +kernel, List.mem_of_getElem? (i := 576) (by decide +kernel), inX10, ⟨by decide +kernel, by decide +kernel⟩, by decide, show ∀ q ∈ tX10_isWithin, Snd mX10_isWithin q.1 q.2 from
  sndC (sd_iload_n (hi := rfl) (hd := (by decide +kernel : decode cX10_isWithin 0 = .ok (.iload_n 0, 1)))) (
   sndC (sd_if_lt (ht := by decide) (hd := (by decide +kernel : decode cX10_isWithin 1 = .ok (.ifCond .lt 12, 3)))) (
   sndC (sd_iload_n (hi := rfl) (hd := (by decide +kernel : decode cX10_isWithin 4 = .ok (.iload_n 0, 1)))) (
   sndC (sd_iload_n (hi := rfl) (hd := (by decide +kernel : decode cX10_isWithin 5 = .ok (.iload_n 1, 1)))) (
   sndC (sd_cmp_gt (ht := by decide) (hd := (by decide +kernel : decode cX10_isWithin 6 = .ok (.if_icmp .gt 7, 3)))) (
   sndC (sd_iconst (hd := (by decide +kernel : decode cX10_isWithin 9 = .ok (.iconst 1, 1))) (hv := by decide)) (
   sndC (sd_goto (ht := by decide) (hd := (by decide +kernel : decode cX10_isWithin 10 = .ok (.goto 4, 3)))) (
   sndC (sd_iconst (hd := (by decide +kernel : decode cX10_isWithin 13 = .ok (.iconst 0, 1))) (hv := by decide)) (
   sndN))))))))⟩


set_option maxRecDepth 20000 in
theorem GX10_isStep : Good mX10_isStep := ⟨by decide +kernel, List.mem_of_getElem? (i := 583) (by decide +kernel), inX10, ⟨by decide +kernel, by decide +kernel⟩, by decide, show ∀ q ∈ tX10_isStep, Snd mX10_isStep q.1 q.2 from
  sndC (sd_iload_n (hi := rfl) (hd := (by decide +kernel : decode cX10_isStep 0 = .ok (.iload_n 0, 1)))) (
   sndC (sd_if_lt (ht := by decide) (hd := (by decide +kernel : decode cX10_isStep 1 = .ok (.ifCond .lt 13, 3)))) (
   sndC (sd_iload_n (hi := rfl) (hd := (by decide +kernel : decode cX10_isStep 4 = .ok (.iload_n 0, 1)))) (
   sndC (sd_bipush (hd := (by decide +kernel : decode cX10_isStep 5 = .ok (.bipush 6, 2))) (hv := by decide)) (
   sndC (sd_cmp_ge (ht := by decide) (hd := (by decide +kernel : decode cX10_isStep 7 = .ok (.if_icmp .ge 7, 3)))) (
   sndC (sd_iconst (hd := (by decide +kernel : decode cX10_isStep 10 = .ok (.iconst 1, 1))) (hv := by decide)) (
   sndC (sd_goto (ht := by decide) (hd := (by decide +kernel : decode cX10_isStep 11 = .ok (.goto 4, 3)))) (
   sndC (sd_iconst (hd := (by decide +kernel : decode cX10_isStep 14 = .ok (.iconst 0, 1))) (hv := by decide)) (
   sndN))))))))⟩


set_option maxRecDepth 20000 in
theorem GX10_witnessAt : Good mX10_witnessAt := ⟨by decide +kernel, List.mem_of_getElem? (i := 589) (by decide +kernel), inX10, ⟨by decide +kernel, by decide +kernel⟩, by decide, show ∀ q ∈ tX10_witnessAt, Snd mX10_witnessAt q.1 q.2 from
  sndC (sd_iload_n (hi := rfl) (hd := (by decide +kernel : decode cX10_witnessAt 0 = .ok (.iload_n 1, 1)))) (
   sndC (sd_if_lt (ht := by decide) (hd := (by decide +kernel : decode cX10_witnessAt 1 = .ok (.ifCond .lt 29, 3)))) (
   sndC (sd_iload_n (hi := rfl) (hd := (by decide +kernel : decode cX10_witnessAt 4 = .ok (.iload_n 1, 1)))) (
   sndC (sd_aload_n (hi := rfl) (hd := (by decide +kernel : decode cX10_witnessAt 5 = .ok (.aload_n 0, 1)))) (
   sndC (sd_get (C := RX10) (T := TX10) (N := 18) (hc := rfl) (hin0 := iX10) (hk := by decide) (hlink := w_524) (hd := (by decide +kernel : decode cX10_witnessAt 6 = .ok (.getfield 130, 3)))) (
   sndC (sd_cmp_ge (ht := by decide) (hd := (by decide +kernel : decode cX10_witnessAt 9 = .ok (.if_icmp .ge 21, 3)))) (
   sndC (sd_iload_n (hi := rfl) (hd := (by decide +kernel : decode cX10_witnessAt 12 = .ok (.iload_n 1, 1)))) (
   sndC (sd_aload_n (hi := rfl) (hd := (by decide +kernel : decode cX10_witnessAt 13 = .ok (.aload_n 0, 1)))) (
   sndC (sd_get (C := RX10) (T := TX10) (N := 18) (hc := rfl) (hin0 := iX10) (hk := by decide) (hlink := w_513) (hd := (by decide +kernel : decode cX10_witnessAt 14 = .ok (.getfield 18, 3)))) (
   sndC (sd_len (hd := (by decide +kernel : decode cX10_witnessAt 17 = .ok (.arraylength, 1)))) (
   sndC (sd_cmp_ge (ht := by decide) (hd := (by decide +kernel : decode cX10_witnessAt 18 = .ok (.if_icmp .ge 12, 3)))) (
   sndC (sd_aload_n (hi := rfl) (hd := (by decide +kernel : decode cX10_witnessAt 21 = .ok (.aload_n 0, 1)))) (
   sndC (sd_get (C := RX10) (T := TX10) (N := 18) (hc := rfl) (hin0 := iX10) (hk := by decide) (hlink := w_513) (hd := (by decide +kernel : decode cX10_witnessAt 22 = .ok (.getfield 18, 3)))) (
   sndC (sd_iload_n (hi := rfl) (hd := (by decide +kernel : decode cX10_witnessAt 25 = .ok (.iload_n 1, 1)))) (
   sndC (sd_qald (hd := (by decide +kernel : decode cX10_witnessAt 26 = .ok (.aaload, 1)))) (
   sndC (sd_goto (ht := by decide) (hd := (by decide +kernel : decode cX10_witnessAt 27 = .ok (.goto 4, 3)))) (
   sndC (sd_null (hd := (by decide +kernel : decode cX10_witnessAt 30 = .ok (.aconst_null, 1)))) (
   sndN)))))))))))))))))⟩


set_option maxRecDepth 20000 in
theorem GX10_textAt : Good mX10_textAt := ⟨by decide +kernel, List.mem_of_getElem? (i := 678) (by decide +kernel), inX10, ⟨by decide +kernel, by decide +kernel⟩, by decide, show ∀ q ∈ tX10_textAt, Snd mX10_textAt q.1 q.2 from
  sndC (sd_iload_n (hi := rfl) (hd := (by decide +kernel : decode cX10_textAt 0 = .ok (.iload_n 1, 1)))) (
   sndC (sd_if_lt (ht := by decide) (hd := (by decide +kernel : decode cX10_textAt 1 = .ok (.ifCond .lt 29, 3)))) (
   sndC (sd_iload_n (hi := rfl) (hd := (by decide +kernel : decode cX10_textAt 4 = .ok (.iload_n 1, 1)))) (
   sndC (sd_aload_n (hi := rfl) (hd := (by decide +kernel : decode cX10_textAt 5 = .ok (.aload_n 0, 1)))) (
   sndC (sd_get (C := RX10) (T := TX10) (N := 18) (hc := rfl) (hin0 := iX10) (hk := by decide) (hlink := w_525) (hd := (by decide +kernel : decode cX10_textAt 6 = .ok (.getfield 75, 3)))) (
   sndC (sd_cmp_ge (ht := by decide) (hd := (by decide +kernel : decode cX10_textAt 9 = .ok (.if_icmp .ge 21, 3)))) (
   sndC (sd_iload_n (hi := rfl) (hd := (by decide +kernel : decode cX10_textAt 12 = .ok (.iload_n 1, 1)))) (
   sndC (sd_aload_n (hi := rfl) (hd := (by decide +kernel : decode cX10_textAt 13 = .ok (.aload_n 0, 1)))) (
   sndC (sd_get (C := RX10) (T := TX10) (N := 18) (hc := rfl) (hin0 := iX10) (hk := by decide) (hlink := w_514) (hd := (by decide +kernel : decode cX10_textAt 14 = .ok (.getfield 24, 3)))) (
   sndC (sd_len (hd := (by decide +kernel : decode cX10_textAt 17 = .ok (.arraylength, 1)))) (
   sndC (sd_cmp_ge (ht := by decide) (hd := (by decide +kernel : decode cX10_textAt 18 = .ok (.if_icmp .ge 12, 3)))) (
   sndC (sd_aload_n (hi := rfl) (hd := (by decide +kernel : decode cX10_textAt 21 = .ok (.aload_n 0, 1)))) (
   sndC (sd_get (C := RX10) (T := TX10) (N := 18) (hc := rfl) (hin0 := iX10) (hk := by decide) (hlink := w_514) (hd := (by decide +kernel : decode cX10_textAt 22 = .ok (.getfield 24, 3)))) (
   sndC (sd_iload_n (hi := rfl) (hd := (by decide +kernel : decode cX10_textAt 25 = .ok (.iload_n 1, 1)))) (
   sndC (sd_qald (hd := (by decide +kernel : decode cX10_textAt 26 = .ok (.aaload, 1)))) (
   sndC (sd_goto (ht := by decide) (hd := (by decide +kernel : decode cX10_textAt 27 = .ok (.goto 4, 3)))) (
   sndC (sd_null (hd := (by decide +kernel : decode cX10_textAt 30 = .ok (.aconst_null, 1)))) (
   sndN)))))))))))))))))⟩


set_option maxRecDepth 20000 in
theorem GX10_sheetAt : Good mX10_sheetAt := ⟨by decide +kernel, List.mem_of_getElem? (i := 880) (by decide +kernel), inX10, ⟨by decide +kernel, by decide +kernel⟩, by decide, show ∀ q ∈ tX10_sheetAt, Snd mX10_sheetAt q.1 q.2 from
  sndC (sd_iload_n (hi := rfl) (hd := (by decide +kernel : decode cX10_sheetAt 0 = .ok (.iload_n 1, 1)))) (
   sndC (sd_if_lt (ht := by decide) (hd := (by decide +kernel : decode cX10_sheetAt 1 = .ok (.ifCond .lt 21, 3)))) (
   sndC (sd_iload_n (hi := rfl) (hd := (by decide +kernel : decode cX10_sheetAt 4 = .ok (.iload_n 1, 1)))) (
   sndC (sd_aload_n (hi := rfl) (hd := (by decide +kernel : decode cX10_sheetAt 5 = .ok (.aload_n 0, 1)))) (
   sndC (sd_get (C := RX10) (T := TX10) (N := 18) (hc := rfl) (hin0 := iX10) (hk := by decide) (hlink := w_516) (hd := (by decide +kernel : decode cX10_sheetAt 6 = .ok (.getfield 33, 3)))) (
   sndC (sd_len (hd := (by decide +kernel : decode cX10_sheetAt 9 = .ok (.arraylength, 1)))) (
   sndC (sd_cmp_ge (ht := by decide) (hd := (by decide +kernel : decode cX10_sheetAt 10 = .ok (.if_icmp .ge 12, 3)))) (
   sndC (sd_aload_n (hi := rfl) (hd := (by decide +kernel : decode cX10_sheetAt 13 = .ok (.aload_n 0, 1)))) (
   sndC (sd_get (C := RX10) (T := TX10) (N := 18) (hc := rfl) (hin0 := iX10) (hk := by decide) (hlink := w_516) (hd := (by decide +kernel : decode cX10_sheetAt 14 = .ok (.getfield 33, 3)))) (
   sndC (sd_iload_n (hi := rfl) (hd := (by decide +kernel : decode cX10_sheetAt 17 = .ok (.iload_n 1, 1)))) (
   sndC (sd_qald (hd := (by decide +kernel : decode cX10_sheetAt 18 = .ok (.aaload, 1)))) (
   sndC (sd_goto (ht := by decide) (hd := (by decide +kernel : decode cX10_sheetAt 19 = .ok (.goto 4, 3)))) (
   sndC (sd_null (hd := (by decide +kernel : decode cX10_sheetAt 22 = .ok (.aconst_null, 1)))) (
   sndN)))))))))))))⟩


set_option maxRecDepth 20000 in
theorem GX10_setAge : Good mX10_setAge := ⟨by decide +kernel, List.mem_of_getElem? (i := 573) (by decide +kernel), inX10, ⟨by decide +kernel, by decide +kernel⟩, by decide, show ∀ q ∈ tX10_setAge, Snd mX10_setAge q.1 q.2 from
  sndC (sd_iload_n (hi := rfl) (hd := (by decide +kernel : decode cX10_setAge 0 = .ok (.iload_n 1, 1)))) (
   sndC (sd_bipush (hd := (by decide +kernel : decode cX10_setAge 1 = .ok (.bipush 99, 2))) (hv := by decide)) (
   sndC (sd_if_ne (ht := by decide) (hd := (by decide +kernel : decode cX10_setAge 6 = .ok (.ifCond .ne 6, 3)))) (
   sndC (sd_bipush (hd := (by decide +kernel : decode cX10_setAge 9 = .ok (.bipush (-2), 2))) (hv := by decide)) (
   sndC (sd_aload_n (hi := rfl) (hd := (by decide +kernel : decode cX10_setAge 12 = .ok (.aload_n 0, 1)))) (
   sndC (sd_get (C := RX10) (T := TX10) (N := 18) (hc := rfl) (hin0 := iX10) (hk := by decide) (hlink := w_523) (hd := (by decide +kernel : decode cX10_setAge 13 = .ok (.getfield 71, 3)))) (
   sndC (sd_istore_n (hi := rfl) (hd := (by decide +kernel : decode cX10_setAge 16 = .ok (.istore_n 2, 1)))) (
   sndC (sd_aload_n (hi := rfl) (hd := (by decide +kernel : decode cX10_setAge 17 = .ok (.aload_n 0, 1)))) (
   sndC (sd_iload_n (hi := rfl) (hd := (by decide +kernel : decode cX10_setAge 18 = .ok (.iload_n 1, 1)))) (
   sndC (sd_putI (C := RX10) (T := TX10) (N := 18) (hc := rfl) (hin0 := iX10) (hk := by decide) (hlink := w_523) (ty0 := tyX10) (hty := tyX10_ok) (hnm := nmX10) (hfin := rfl) (hi := rfl) (hd := (by decide +kernel : decode cX10_setAge 19 = .ok (.putfield 71, 3)))) (
   sndC (sd_iload_n (hi := rfl) (hd := (by decide +kernel : decode cX10_setAge 22 = .ok (.iload_n 2, 1)))) (
   sndN)))))))))))⟩
theorem kX10_setAge_3 : CallAt mX10_setAge 3 1 mX10_isWithin 2 := ⟨by decide +kernel, ⟨_, (by decide +kernel : decode cX10_setAge 3 = .ok (.invokestatic 126, 3)), w_574, w_575⟩⟩

set_option maxRecDepth 20000 in
theorem GX10_setDoing : Good mX10_setDoing := ⟨by decide +kernel, List.mem_of_getElem? (i := 580) (by decide +kernel), inX10, ⟨by decide +kernel, by decide +kernel⟩, by decide, show ∀ q ∈ tX10_setDoing, Snd mX10_setDoing q.1 q.2 from
  sndC (sd_iload_n (hi := rfl) (hd := (by decide +kernel : decode cX10_setDoing 0 = .ok (.iload_n 1, 1)))) (
   sndC (sd_if_eq (ht := by decide) (hd := (by decide +kernel : decode cX10_setDoing 4 = .ok (.ifCond .eq 11, 3)))) (
   sndC (sd_iload_n (hi := rfl) (hd := (by decide +kernel : decode cX10_setDoing 7 = .ok (.iload_n 2, 1)))) (
   sndC (sd_iconst (hd := (by decide +kernel : decode cX10_setDoing 8 = .ok (.iconst 3, 1))) (hv := by decide)) (
   sndC (sd_if_ne (ht := by decide) (hd := (by decide +kernel : decode cX10_setDoing 12 = .ok (.ifCond .ne 6, 3)))) (
   sndC (sd_bipush (hd := (by decide +kernel : decode cX10_setDoing 15 = .ok (.bipush (-2), 2))) (hv := by decide)) (
   sndC (sd_aload_n (hi := rfl) (hd := (by decide +kernel : decode cX10_setDoing 18 = .ok (.aload_n 0, 1)))) (
   sndC (sd_get (C := RX10) (T := TX10) (N := 18) (hc := rfl) (hin0 := iX10) (hk := by decide) (hlink := w_511) (hd := (by decide +kernel : decode cX10_setDoing 19 = .ok (.getfield 9, 3)))) (
   sndC (sd_iload_n (hi := rfl) (hd := (by decide +kernel : decode cX10_setDoing 22 = .ok (.iload_n 1, 1)))) (
   sndC (sd_istore_n (hi := rfl) (hd := (by decide +kernel : decode cX10_setDoing 26 = .ok (.istore_n 3, 1)))) (
   sndC (sd_aload_n (hi := rfl) (hd := (by decide +kernel : decode cX10_setDoing 27 = .ok (.aload_n 0, 1)))) (
   sndC (sd_get (C := RX10) (T := TX10) (N := 18) (hc := rfl) (hin0 := iX10) (hk := by decide) (hlink := w_511) (hd := (by decide +kernel : decode cX10_setDoing 28 = .ok (.getfield 9, 3)))) (
   sndC (sd_iload_n (hi := rfl) (hd := (by decide +kernel : decode cX10_setDoing 31 = .ok (.iload_n 1, 1)))) (
   sndC (sd_iload_n (hi := rfl) (hd := (by decide +kernel : decode cX10_setDoing 32 = .ok (.iload_n 2, 1)))) (
   sndC (sd_iload_n (hi := rfl) (hd := (by decide +kernel : decode cX10_setDoing 36 = .ok (.iload_n 3, 1)))) (
   sndN)))))))))))))))⟩
theorem kX10_setDoing_1 : CallAt mX10_setDoing 1 1 mX10_isStep 1 := ⟨by decide +kernel, ⟨_, (by decide +kernel : decode cX10_setDoing 1 = .ok (.invokestatic 137, 3)), w_581, w_582⟩⟩
theorem kX10_setDoing_9 : CallAt mX10_setDoing 9 1 mX10_isWithin 2 := ⟨by decide +kernel, ⟨_, (by decide +kernel : decode cX10_setDoing 9 = .ok (.invokestatic 126, 3)), w_574, w_575⟩⟩
theorem kX10_setDoing_23 : CallAt mX10_setDoing 23 1 mX5_at 2 := ⟨by decide +kernel, ⟨_, (by decide +kernel : decode cX10_setDoing 23 = .ok (.invokestatic 140, 3)), w_584, w_391⟩⟩
theorem kX10_setDoing_33 : CallAt mX10_setDoing 33 1 mX5_put 3 := ⟨by decide +kernel, ⟨_, (by decide +kernel : decode cX10_setDoing 33 = .ok (.invokestatic 168, 3)), w_585, w_432⟩⟩

set_option maxRecDepth 20000 in
theorem GX10_setOfWitness : Good mX10_setOfWitness := ⟨by decide +kernel, List.mem_of_getElem? (i := 592) (by decide +kernel), inX10, ⟨by decide +kernel, by decide +kernel⟩, by decide, show ∀ q ∈ tX10_setOfWitness, Snd mX10_setOfWitness q.1 q.2 from
  sndC (sd_iload_n (hi := rfl) (hd := (by decide +kernel : decode cX10_setOfWitness 0 = .ok (.iload_n 0, 1)))) (
   sndC (sd_iconst (hd := (by decide +kernel : decode cX10_setOfWitness 1 = .ok (.iconst 2, 1))) (hv := by decide)) (
   sndC (sd_cmp_ne (ht := by decide) (hd := (by decide +kernel : decode cX10_setOfWitness 2 = .ok (.if_icmp .ne 8, 3)))) (
   sndC (sd_bipush (hd := (by decide +kernel : decode cX10_setOfWitness 5 = .ok (.bipush 9, 2))) (hv := by decide)) (
   sndC (sd_goto (ht := by decide) (hd := (by decide +kernel : decode cX10_setOfWitness 7 = .ok (.goto 14, 3)))) (
   sndC (sd_iload_n (hi := rfl) (hd := (by decide +kernel : decode cX10_setOfWitness 10 = .ok (.iload_n 0, 1)))) (
   sndC (sd_iconst (hd := (by decide +kernel : decode cX10_setOfWitness 11 = .ok (.iconst 3, 1))) (hv := by decide)) (
   sndC (sd_cmp_ne (ht := by decide) (hd := (by decide +kernel : decode cX10_setOfWitness 12 = .ok (.if_icmp .ne 8, 3)))) (
   sndC (sd_bipush (hd := (by decide +kernel : decode cX10_setOfWitness 15 = .ok (.bipush 63, 2))) (hv := by decide)) (
   sndC (sd_goto (ht := by decide) (hd := (by decide +kernel : decode cX10_setOfWitness 17 = .ok (.goto 4, 3)))) (
   sndC (sd_iconst (hd := (by decide +kernel : decode cX10_setOfWitness 20 = .ok (.iconst 1, 1))) (hv := by decide)) (
   sndC (sd_istore_n (hi := rfl) (hd := (by decide +kernel : decode cX10_setOfWitness 21 = .ok (.istore_n 3, 1)))) (
   sndC (sd_aload_n (hi := rfl) (hd := (by decide +kernel : decode cX10_setOfWitness 22 = .ok (.aload_n 1, 1)))) (
   sndC (sd_ifnull (ht := by decide) (hd := (by decide +kernel : decode cX10_setOfWitness 23 = .ok (.ifnull 11, 3)))) (
   sndC (sd_iload_n (hi := rfl) (hd := (by decide +kernel : decode cX10_setOfWitness 26 = .ok (.iload_n 2, 1)))) (
   sndC (sd_iload_n (hi := rfl) (hd := (by decide +kernel : decode cX10_setOfWitness 27 = .ok (.iload_n 3, 1)))) (
   sndC (sd_if_ne (ht := by decide) (hd := (by decide +kernel : decode cX10_setOfWitness 31 = .ok (.ifCond .ne 6, 3)))) (
   sndC (sd_bipush (hd := (by decide +kernel : decode cX10_setOfWitness 34 = .ok (.bipush (-2), 2))) (hv := by decide)) (
   sndC (sd_iload_n (hi := rfl) (hd := (by decide +kernel : decode cX10_setOfWitness 37 = .ok (.iload_n 0, 1)))) (
   sndC (sd_iconst (hd := (by decide +kernel : decode cX10_setOfWitness 38 = .ok (.iconst 2, 1))) (hv := by decide)) (
   sndC (sd_cmp_ne (ht := by decide) (hd := (by decide +kernel : decode cX10_setOfWitness 39 = .ok (.if_icmp .ne 17, 3)))) (
   sndC (sd_aload_n (hi := rfl) (hd := (by decide +kernel : decode cX10_setOfWitness 42 = .ok (.aload_n 1, 1)))) (
   sndC (sd_get (C := RX9) (T := TX9) (N := 10) (hc := rfl) (hin0 := iX9) (hk := by decide) (hlink := w_279) (hd := (by decide +kernel : decode cX10_setOfWitness 43 = .ok (.getfield 145, 3)))) (
   sndC (sd_istore (hd := (by decide +kernel : decode cX10_setOfWitness 46 = .ok (.istore 4, 2)))) (
   sndC (sd_aload_n (hi := rfl) (hd := (by decide +kernel : decode cX10_setOfWitness 48 = .ok (.aload_n 1, 1)))) (
   sndC (sd_iload_n (hi := rfl) (hd := (by decide +kernel : decode cX10_setOfWitness 49 = .ok (.iload_n 2, 1)))) (
   sndC (sd_putI (C := RX9) (T := TX9) (N := 10) (hc := rfl) (hin0 := iX9) (hk := by decide) (hlink := w_279) (ty0 := tyX9) (hty := tyX9_ok) (hnm := nmX9) (hfin := rfl) (hi := rfl) (hd := (by decide +kernel : decode cX10_setOfWitness 50 = .ok (.putfield 145, 3)))) (
   sndC (sd_goto (ht := by decide) (hd := (by decide +kernel : decode cX10_setOfWitness 53 = .ok (.goto 33, 3)))) (
   sndC (sd_iload_n (hi := rfl) (hd := (by decide +kernel : decode cX10_setOfWitness 56 = .ok (.iload_n 0, 1)))) (
   sndC (sd_iconst (hd := (by decide +kernel : decode cX10_setOfWitness 57 = .ok (.iconst 3, 1))) (hv := by decide)) (
   sndC (sd_cmp_ne (ht := by decide) (hd := (by decide +kernel : decode cX10_setOfWitness 58 = .ok (.if_icmp .ne 17, 3)))) (
   sndC (sd_aload_n (hi := rfl) (hd := (by decide +kernel : decode cX10_setOfWitness 61 = .ok (.aload_n 1, 1)))) (
   sndC (sd_get (C := RX9) (T := TX9) (N := 10) (hc := rfl) (hin0 := iX9) (hk := by decide) (hlink := w_282) (hd := (by decide +kernel : decode cX10_setOfWitness 62 = .ok (.getfield 148, 3)))) (
   sndC (sd_istore (hd := (by decide +kernel : decode cX10_setOfWitness 65 = .ok (.istore 4, 2)))) (
   sndC (sd_aload_n (hi := rfl) (hd := (by decide +kernel : decode cX10_setOfWitness 67 = .ok (.aload_n 1, 1)))) (
   sndC (sd_iload_n (hi := rfl) (hd := (by decide +kernel : decode cX10_setOfWitness 68 = .ok (.iload_n 2, 1)))) (
   sndC (sd_putI (C := RX9) (T := TX9) (N := 10) (hc := rfl) (hin0 := iX9) (hk := by decide) (hlink := w_282) (ty0 := tyX9) (hty := tyX9_ok) (hnm := nmX9) (hfin := rfl) (hi := rfl) (hd := (by decide +kernel : decode cX10_setOfWitness 69 = .ok (.putfield 148, 3)))) (
   sndC (sd_goto (ht := by decide) (hd := (by decide +kernel : decode cX10_setOfWitness 72 = .ok (.goto 14, 3)))) (
   sndC (sd_aload_n (hi := rfl) (hd := (by decide +kernel : decode cX10_setOfWitness 75 = .ok (.aload_n 1, 1)))) (
   sndC (sd_get (C := RX9) (T := TX9) (N := 10) (hc := rfl) (hin0 := iX9) (hk := by decide) (hlink := w_285) (hd := (by decide +kernel : decode cX10_setOfWitness 76 = .ok (.getfield 151, 3)))) (
   sndC (sd_istore (hd := (by decide +kernel : decode cX10_setOfWitness 79 = .ok (.istore 4, 2)))) (
   sndC (sd_aload_n (hi := rfl) (hd := (by decide +kernel : decode cX10_setOfWitness 81 = .ok (.aload_n 1, 1)))) (
   sndC (sd_iload_n (hi := rfl) (hd := (by decide +kernel : decode cX10_setOfWitness 82 = .ok (.iload_n 2, 1)))) (
   sndC (sd_putI (C := RX9) (T := TX9) (N := 10) (hc := rfl) (hin0 := iX9) (hk := by decide) (hlink := w_285) (ty0 := tyX9) (hty := tyX9_ok) (hnm := nmX9) (hfin := rfl) (hi := rfl) (hd := (by decide +kernel : decode cX10_setOfWitness 83 = .ok (.putfield 151, 3)))) (
   sndC (sd_iload (hd := (by decide +kernel : decode cX10_setOfWitness 86 = .ok (.iload 4, 2)))) (
   sndN)))))))))))))))))))))))))))))))))))))))))))))⟩
theorem kX10_setOfWitness_28 : CallAt mX10_setOfWitness 28 1 mX10_isWithin 2 := ⟨by decide +kernel, ⟨_, (by decide +kernel : decode cX10_setOfWitness 28 = .ok (.invokestatic 126, 3)), w_574, w_575⟩⟩

set_option maxRecDepth 20000 in
theorem GX10_sentBits : Good mX10_sentBits := ⟨by decide +kernel, List.mem_of_getElem? (i := 726) (by decide +kernel), inX10, ⟨by decide +kernel, by decide +kernel⟩, by decide, show ∀ q ∈ tX10_sentBits, Snd mX10_sentBits q.1 q.2 from
  sndC (sd_iconst (hd := (by decide +kernel : decode cX10_sentBits 0 = .ok (.iconst 0, 1))) (hv := by decide)) (
   sndC (sd_istore_n (hi := rfl) (hd := (by decide +kernel : decode cX10_sentBits 1 = .ok (.istore_n 1, 1)))) (
   sndC (sd_iconst (hd := (by decide +kernel : decode cX10_sentBits 2 = .ok (.iconst 0, 1))) (hv := by decide)) (
   sndC (sd_istore_n (hi := rfl) (hd := (by decide +kernel : decode cX10_sentBits 3 = .ok (.istore_n 2, 1)))) (
   sndC (sd_iload_n (hi := rfl) (hd := (by decide +kernel : decode cX10_sentBits 4 = .ok (.iload_n 2, 1)))) (
   sndC (sd_aload_n (hi := rfl) (hd := (by decide +kernel : decode cX10_sentBits 5 = .ok (.aload_n 0, 1)))) (
   sndC (sd_get (C := RX10) (T := TX10) (N := 18) (hc := rfl) (hin0 := iX10) (hk := by decide) (hlink := w_524) (hd := (by decide +kernel : decode cX10_sentBits 6 = .ok (.getfield 130, 3)))) (
   sndC (sd_cmp_ge (ht := by decide) (hd := (by decide +kernel : decode cX10_sentBits 9 = .ok (.if_icmp .ge 33, 3)))) (
   sndC (sd_aload_n (hi := rfl) (hd := (by decide +kernel : decode cX10_sentBits 12 = .ok (.aload_n 0, 1)))) (
   sndC (sd_iload_n (hi := rfl) (hd := (by decide +kernel : decode cX10_sentBits 13 = .ok (.iload_n 2, 1)))) (
   sndC (sd_astore_n (hi := rfl) (hd := (by decide +kernel : decode cX10_sentBits 17 = .ok (.astore_n 3, 1)))) (
   sndC (sd_aload_n (hi := rfl) (hd := (by decide +kernel : decode cX10_sentBits 18 = .ok (.aload_n 3, 1)))) (
   sndC (sd_ifnull (ht := by decide) (hd := (by decide +kernel : decode cX10_sentBits 19 = .ok (.ifnull 17, 3)))) (
   sndC (sd_aload_n (hi := rfl) (hd := (by decide +kernel : decode cX10_sentBits 22 = .ok (.aload_n 3, 1)))) (
   sndC (sd_get (C := RX9) (T := TX9) (N := 10) (hc := rfl) (hin0 := iX9) (hk := by decide) (hlink := w_285) (hd := (by decide +kernel : decode cX10_sentBits 23 = .ok (.getfield 151, 3)))) (
   sndC (sd_iconst (hd := (by decide +kernel : decode cX10_sentBits 26 = .ok (.iconst 1, 1))) (hv := by decide)) (
   sndC (sd_cmp_ne (ht := by decide) (hd := (by decide +kernel : decode cX10_sentBits 27 = .ok (.if_icmp .ne 9, 3)))) (
   sndC (sd_iload_n (hi := rfl) (hd := (by decide +kernel : decode cX10_sentBits 30 = .ok (.iload_n 1, 1)))) (
   sndC (sd_iconst (hd := (by decide +kernel : decode cX10_sentBits 31 = .ok (.iconst 1, 1))) (hv := by decide)) (
   sndC (sd_iload_n (hi := rfl) (hd := (by decide +kernel : decode cX10_sentBits 32 = .ok (.iload_n 2, 1)))) (
   sndC (sd_ishl (hd := (by decide +kernel : decode cX10_sentBits 33 = .ok (.ishl, 1)))) (
   sndC (sd_ior (hd := (by decide +kernel : decode cX10_sentBits 34 = .ok (.ior, 1)))) (
   sndC (sd_istore_n (hi := rfl) (hd := (by decide +kernel : decode cX10_sentBits 35 = .ok (.istore_n 1, 1)))) (
   sndC (sd_iinc (hv := by decide) (hd := (by decide +kernel : decode cX10_sentBits 36 = .ok (.iinc 2 1, 3)))) (
   sndC (sd_goto (ht := by decide) (hd := (by decide +kernel : decode cX10_sentBits 39 = .ok (.goto (-35), 3)))) (
   sndC (sd_iload_n (hi := rfl) (hd := (by decide +kernel : decode cX10_sentBits 42 = .ok (.iload_n 1, 1)))) (
   sndN))))))))))))))))))))))))))⟩
theorem kX10_sentBits_14 : CallAt mX10_sentBits 14 0 mX10_witnessAt 1 := ⟨by decide +kernel, ⟨_, (by decide +kernel : decode cX10_sentBits 14 = .ok (.invokevirtual 112, 3)), w_586, w_588, w_11⟩⟩

set_option maxRecDepth 20000 in
theorem GX10_nameStep : Good mX10_nameStep := ⟨by decide +kernel, List.mem_of_getElem? (i := 655) (by decide +kernel), inX10, ⟨by decide +kernel, by decide +kernel⟩, by decide, show ∀ q ∈ tX10_nameStep, Snd mX10_nameStep q.1 q.2 from
  sndC (sd_aload_n (hi := rfl) (hd := (by decide +kernel : decode cX10_nameStep 0 = .ok (.aload_n 0, 1)))) (
   sndC (sd_get (C := RX10) (T := TX10) (N := 18) (hc := rfl) (hin0 := iX10) (hk := by decide) (hlink := w_518) (hd := (by decide +kernel : decode cX10_nameStep 1 = .ok (.getfield 47, 3)))) (
   sndC (sd_iload_n (hi := rfl) (hd := (by decide +kernel : decode cX10_nameStep 4 = .ok (.iload_n 1, 1)))) (
   sndC (sd_aload_n (hi := rfl) (hd := (by decide +kernel : decode cX10_nameStep 5 = .ok (.aload_n 0, 1)))) (
   sndC (sd_get (C := RX10) (T := TX10) (N := 18) (hc := rfl) (hin0 := iX10) (hk := by decide) (hlink := w_511) (hd := (by decide +kernel : decode cX10_nameStep 6 = .ok (.getfield 9, 3)))) (
   sndC (sd_iload_n (hi := rfl) (hd := (by decide +kernel : decode cX10_nameStep 9 = .ok (.iload_n 1, 1)))) (
   sndC (sd_iload_n (hi := rfl) (hd := (by decide +kernel : decode cX10_nameStep 13 = .ok (.iload_n 1, 1)))) (
   sndC (sd_if_le (ht := by decide) (hd := (by decide +kernel : decode cX10_nameStep 14 = .ok (.ifCond .le 16, 3)))) (
   sndC (sd_aload_n (hi := rfl) (hd := (by decide +kernel : decode cX10_nameStep 17 = .ok (.aload_n 0, 1)))) (
   sndC (sd_get (C := RX10) (T := TX10) (N := 18) (hc := rfl) (hin0 := iX10) (hk := by decide) (hlink := w_511) (hd := (by decide +kernel : decode cX10_nameStep 18 = .ok (.getfield 9, 3)))) (
   sndC (sd_iload_n (hi := rfl) (hd := (by decide +kernel : decode cX10_nameStep 21 = .ok (.iload_n 1, 1)))) (
   sndC (sd_iconst (hd := (by decide +kernel : decode cX10_nameStep 22 = .ok (.iconst 1, 1))) (hv := by decide)) (
   sndC (sd_isub (hd := (by decide +kernel : decode cX10_nameStep 23 = .ok (.isub, 1)))) (
   sndC (sd_goto (ht := by decide) (hd := (by decide +kernel : decode cX10_nameStep 27 = .ok (.goto 4, 3)))) (
   sndC (sd_iconst (hd := (by decide +kernel : decode cX10_nameStep 30 = .ok (.iconst 0, 1))) (hv := by decide)) (
   sndC (sd_aload_n (hi := rfl) (hd := (by decide +kernel : decode cX10_nameStep 31 = .ok (.aload_n 0, 1)))) (
   sndC (sd_get (C := RX10) (T := TX10) (N := 18) (hc := rfl) (hin0 := iX10) (hk := by decide) (hlink := w_523) (hd := (by decide +kernel : decode cX10_nameStep 32 = .ok (.getfield 71, 3)))) (
   sndC (sd_iload_n (hi := rfl) (hd := (by decide +kernel : decode cX10_nameStep 35 = .ok (.iload_n 1, 1)))) (
   sndC (sd_iadd (hd := (by decide +kernel : decode cX10_nameStep 36 = .ok (.iadd, 1)))) (
   sndN)))))))))))))))))))⟩
theorem kX10_nameStep_10 : CallAt mX10_nameStep 10 1 mX5_at 2 := ⟨by decide +kernel, ⟨_, (by decide +kernel : decode cX10_nameStep 10 = .ok (.invokestatic 140, 3)), w_584, w_391⟩⟩
theorem kX10_nameStep_24 : CallAt mX10_nameStep 24 1 mX5_at 2 := ⟨by decide +kernel, ⟨_, (by decide +kernel : decode cX10_nameStep 24 = .ok (.invokestatic 140, 3)), w_584, w_391⟩⟩
theorem kX10_nameStep_37 : CallAt mX10_nameStep 37 0 mX3_ofStep 4 := ⟨by decide +kernel, ⟨_, (by decide +kernel : decode cX10_nameStep 37 = .ok (.invokevirtual 331, 3)), w_622, w_623, w_624⟩⟩

set_option maxRecDepth 20000 in
theorem GX10_saidBy : Good mX10_saidBy := ⟨by decide +kernel, List.mem_of_getElem? (i := 651) (by decide +kernel), inX10, ⟨by decide +kernel, by decide +kernel⟩, by decide, show ∀ q ∈ tX10_saidBy, Snd mX10_saidBy q.1 q.2 from
  sndC (sd_aload_n (hi := rfl) (hd := (by decide +kernel : decode cX10_saidBy 0 = .ok (.aload_n 0, 1)))) (
   sndC (sd_get (C := RX10) (T := TX10) (N := 18) (hc := rfl) (hin0 := iX10) (hk := by decide) (hlink := w_518) (hd := (by decide +kernel : decode cX10_saidBy 1 = .ok (.getfield 47, 3)))) (
   sndC (sd_aload_n (hi := rfl) (hd := (by decide +kernel : decode cX10_saidBy 4 = .ok (.aload_n 1, 1)))) (
   sndC (sd_get (C := RX9) (T := TX9) (N := 10) (hc := rfl) (hin0 := iX9) (hk := by decide) (hlink := w_279) (hd := (by decide +kernel : decode cX10_saidBy 5 = .ok (.getfield 145, 3)))) (
   sndC (sd_aload_n (hi := rfl) (hd := (by decide +kernel : decode cX10_saidBy 8 = .ok (.aload_n 1, 1)))) (
   sndC (sd_get (C := RX9) (T := TX9) (N := 10) (hc := rfl) (hin0 := iX9) (hk := by decide) (hlink := w_282) (hd := (by decide +kernel : decode cX10_saidBy 9 = .ok (.getfield 148, 3)))) (
   sndC (sd_aload_n (hi := rfl) (hd := (by decide +kernel : decode cX10_saidBy 15 = .ok (.aload_n 0, 1)))) (
   sndC (sd_iload_n (hi := rfl) (hd := (by decide +kernel : decode cX10_saidBy 16 = .ok (.iload_n 2, 1)))) (
   sndC (sd_aload_n (hi := rfl) (hd := (by decide +kernel : decode cX10_saidBy 20 = .ok (.aload_n 0, 1)))) (
   sndC (sd_get (C := RX10) (T := TX10) (N := 18) (hc := rfl) (hin0 := iX10) (hk := by decide) (hlink := w_528) (hd := (by decide +kernel : decode cX10_saidBy 21 = .ok (.getfield 100, 3)))) (
   sndC (sd_aload_n (hi := rfl) (hd := (by decide +kernel : decode cX10_saidBy 24 = .ok (.aload_n 0, 1)))) (
   sndC (sd_get (C := RX10) (T := TX10) (N := 18) (hc := rfl) (hin0 := iX10) (hk := by decide) (hlink := w_518) (hd := (by decide +kernel : decode cX10_saidBy 25 = .ok (.getfield 47, 3)))) (
   sndC (sd_aload_n (hi := rfl) (hd := (by decide +kernel : decode cX10_saidBy 28 = .ok (.aload_n 1, 1)))) (
   sndC (sd_get (C := RX9) (T := TX9) (N := 10) (hc := rfl) (hin0 := iX9) (hk := by decide) (hlink := w_276) (hd := (by decide +kernel : decode cX10_saidBy 29 = .ok (.getfield 154, 3)))) (
   sndC (sd_aload_n (hi := rfl) (hd := (by decide +kernel : decode cX10_saidBy 32 = .ok (.aload_n 1, 1)))) (
   sndC (sd_get (C := RX9) (T := TX9) (N := 10) (hc := rfl) (hin0 := iX9) (hk := by decide) (hlink := w_282) (hd := (by decide +kernel : decode cX10_saidBy 33 = .ok (.getfield 148, 3)))) (
   sndN))))))))))))))))⟩
theorem kX10_saidBy_12 : CallAt mX10_saidBy 12 0 mX3_ofWitness 2 := ⟨by decide +kernel, ⟨_, (by decide +kernel : decode cX10_saidBy 12 = .ok (.invokevirtual 335, 3)), w_612, w_613, w_614⟩⟩
theorem kX10_saidBy_17 : CallAt mX10_saidBy 17 0 mX10_nameStep 1 := ⟨by decide +kernel, ⟨_, (by decide +kernel : decode cX10_saidBy 17 = .ok (.invokevirtual 338, 3)), w_652, w_654, w_14⟩⟩
theorem kX10_saidBy_36 : CallAt mX10_saidBy 36 1 mX1_telling 4 := ⟨by decide +kernel, ⟨_, (by decide +kernel : decode cX10_saidBy 36 = .ok (.invokestatic 341, 3)), w_656, w_657⟩⟩

set_option maxRecDepth 20000 in
theorem GX10_saysFalse : Good mX10_saysFalse := ⟨by decide +kernel, List.mem_of_getElem? (i := 872) (by decide +kernel), inX10, ⟨by decide +kernel, by decide +kernel⟩, by decide, show ∀ q ∈ tX10_saysFalse, Snd mX10_saysFalse q.1 q.2 from
  sndC (sd_iconst (hd := (by decide +kernel : decode cX10_saysFalse 0 = .ok (.iconst 0, 1))) (hv := by decide)) (
   sndC (sd_istore_n (hi := rfl) (hd := (by decide +kernel : decode cX10_saysFalse 1 = .ok (.istore_n 2, 1)))) (
   sndC (sd_iload_n (hi := rfl) (hd := (by decide +kernel : decode cX10_saysFalse 2 = .ok (.iload_n 2, 1)))) (
   sndC (sd_bipush (hd := (by decide +kernel : decode cX10_saysFalse 3 = .ok (.bipush 6, 2))) (hv := by decide)) (
   sndC (sd_cmp_ge (ht := by decide) (hd := (by decide +kernel : decode cX10_saysFalse 5 = .ok (.if_icmp .ge 38, 3)))) (
   sndC (sd_aload_n (hi := rfl) (hd := (by decide +kernel : decode cX10_saysFalse 8 = .ok (.aload_n 0, 1)))) (
   sndC (sd_aload_n (hi := rfl) (hd := (by decide +kernel : decode cX10_saysFalse 9 = .ok (.aload_n 1, 1)))) (
   sndC (sd_iload_n (hi := rfl) (hd := (by decide +kernel : decode cX10_saysFalse 10 = .ok (.iload_n 2, 1)))) (
   sndC (sd_istore_n (hi := rfl) (hd := (by decide +kernel : decode cX10_saysFalse 14 = .ok (.istore_n 3, 1)))) (
   sndC (sd_iload_n (hi := rfl) (hd := (by decide +kernel : decode cX10_saysFalse 15 = .ok (.iload_n 3, 1)))) (
   sndC (sd_iconst (hd := (by decide +kernel : decode cX10_saysFalse 16 = .ok (.iconst 3, 1))) (hv := by decide)) (
   sndC (sd_if_eq (ht := by decide) (hd := (by decide +kernel : decode cX10_saysFalse 20 = .ok (.ifCond .eq 17, 3)))) (
   sndC (sd_iload_n (hi := rfl) (hd := (by decide +kernel : decode cX10_saysFalse 23 = .ok (.iload_n 3, 1)))) (
   sndC (sd_aload_n (hi := rfl) (hd := (by decide +kernel : decode cX10_saysFalse 24 = .ok (.aload_n 0, 1)))) (
   sndC (sd_get (C := RX10) (T := TX10) (N := 18) (hc := rfl) (hin0 := iX10) (hk := by decide) (hlink := w_511) (hd := (by decide +kernel : decode cX10_saysFalse 25 = .ok (.getfield 9, 3)))) (
   sndC (sd_iload_n (hi := rfl) (hd := (by decide +kernel : decode cX10_saysFalse 28 = .ok (.iload_n 2, 1)))) (
   sndC (sd_cmp_eq (ht := by decide) (hd := (by decide +kernel : decode cX10_saysFalse 32 = .ok (.if_icmp .eq 5, 3)))) (
   sndC (sd_iconst (hd := (by decide +kernel : decode cX10_saysFalse 35 = .ok (.iconst 1, 1))) (hv := by decide)) (
   sndC (sd_iinc (hv := by decide) (hd := (by decide +kernel : decode cX10_saysFalse 37 = .ok (.iinc 2 1, 3)))) (
   sndC (sd_goto (ht := by decide) (hd := (by decide +kernel : decode cX10_saysFalse 40 = .ok (.goto (-38), 3)))) (
   sndC (sd_iconst (hd := (by decide +kernel : decode cX10_saysFalse 43 = .ok (.iconst 0, 1))) (hv := by decide)) (
   sndN)))))))))))))))))))))⟩
theorem kX10_saysFalse_11 : CallAt mX10_saysFalse 11 0 mX10_saidBy 2 := ⟨by decide +kernel, ⟨_, (by decide +kernel : decode cX10_saysFalse 11 = .ok (.invokevirtual 161, 3)), w_648, w_650, w_13⟩⟩
theorem kX10_saysFalse_17 : CallAt mX10_saysFalse 17 1 mX10_isWithin 2 := ⟨by decide +kernel, ⟨_, (by decide +kernel : decode cX10_saysFalse 17 = .ok (.invokestatic 126, 3)), w_574, w_575⟩⟩
theorem kX10_saysFalse_29 : CallAt mX10_saysFalse 29 1 mX5_at 2 := ⟨by decide +kernel, ⟨_, (by decide +kernel : decode cX10_saysFalse 29 = .ok (.invokestatic 140, 3)), w_584, w_391⟩⟩

set_option maxRecDepth 20000 in
theorem GX10_priceOf : Good mX10_priceOf := ⟨by decide +kernel, List.mem_of_getElem? (i := 611) (by decide +kernel), inX10, ⟨by decide +kernel, by decide +kernel⟩, by decide, show ∀ q ∈ tX10_priceOf, Snd mX10_priceOf q.1 q.2 from
  sndC (sd_aload_n (hi := rfl) (hd := (by decide +kernel : decode cX10_priceOf 0 = .ok (.aload_n 0, 1)))) (
   sndC (sd_get (C := RX10) (T := TX10) (N := 18) (hc := rfl) (hin0 := iX10) (hk := by decide) (hlink := w_518) (hd := (by decide +kernel : decode cX10_priceOf 1 = .ok (.getfield 47, 3)))) (
   sndC (sd_aload_n (hi := rfl) (hd := (by decide +kernel : decode cX10_priceOf 4 = .ok (.aload_n 1, 1)))) (
   sndC (sd_get (C := RX9) (T := TX9) (N := 10) (hc := rfl) (hin0 := iX9) (hk := by decide) (hlink := w_279) (hd := (by decide +kernel : decode cX10_priceOf 5 = .ok (.getfield 145, 3)))) (
   sndC (sd_aload_n (hi := rfl) (hd := (by decide +kernel : decode cX10_priceOf 8 = .ok (.aload_n 1, 1)))) (
   sndC (sd_get (C := RX9) (T := TX9) (N := 10) (hc := rfl) (hin0 := iX9) (hk := by decide) (hlink := w_282) (hd := (by decide +kernel : decode cX10_priceOf 9 = .ok (.getfield 148, 3)))) (
   sndC (sd_aload_n (hi := rfl) (hd := (by decide +kernel : decode cX10_priceOf 15 = .ok (.aload_n 0, 1)))) (
   sndC (sd_get (C := RX10) (T := TX10) (N := 18) (hc := rfl) (hin0 := iX10) (hk := by decide) (hlink := w_518) (hd := (by decide +kernel : decode cX10_priceOf 16 = .ok (.getfield 47, 3)))) (
   sndC (sd_iconst (hd := (by decide +kernel : decode cX10_priceOf 19 = .ok (.iconst 0, 1))) (hv := by decide)) (
   sndC (sd_iconst (hd := (by decide +kernel : decode cX10_priceOf 20 = .ok (.iconst 0, 1))) (hv := by decide)) (
   sndC (sd_iconst (hd := (by decide +kernel : decode cX10_priceOf 21 = .ok (.iconst 0, 1))) (hv := by decide)) (
   sndC (sd_aload_n (hi := rfl) (hd := (by decide +kernel : decode cX10_priceOf 22 = .ok (.aload_n 0, 1)))) (
   sndC (sd_get (C := RX10) (T := TX10) (N := 18) (hc := rfl) (hin0 := iX10) (hk := by decide) (hlink := w_523) (hd := (by decide +kernel : decode cX10_priceOf 23 = .ok (.getfield 71, 3)))) (
   sndC (sd_aload_n (hi := rfl) (hd := (by decide +kernel : decode cX10_priceOf 29 = .ok (.aload_n 1, 1)))) (
   sndC (sd_get (C := RX9) (T := TX9) (N := 10) (hc := rfl) (hin0 := iX9) (hk := by decide) (hlink := w_276) (hd := (by decide +kernel : decode cX10_priceOf 30 = .ok (.getfield 154, 3)))) (
   sndC (sd_aload_n (hi := rfl) (hd := (by decide +kernel : decode cX10_priceOf 33 = .ok (.aload_n 1, 1)))) (
   sndC (sd_get (C := RX9) (T := TX9) (N := 10) (hc := rfl) (hin0 := iX9) (hk := by decide) (hlink := w_279) (hd := (by decide +kernel : decode cX10_priceOf 34 = .ok (.getfield 145, 3)))) (
   sndC (sd_aload_n (hi := rfl) (hd := (by decide +kernel : decode cX10_priceOf 37 = .ok (.aload_n 0, 1)))) (
   sndC (sd_get (C := RX10) (T := TX10) (N := 18) (hc := rfl) (hin0 := iX10) (hk := by decide) (hlink := w_528) (hd := (by decide +kernel : decode cX10_priceOf 38 = .ok (.getfield 100, 3)))) (
   sndC (sd_iconst (hd := (by decide +kernel : decode cX10_priceOf 41 = .ok (.iconst 1, 1))) (hv := by decide)) (
   sndC (sd_aload_n (hi := rfl) (hd := (by decide +kernel : decode cX10_priceOf 42 = .ok (.aload_n 0, 1)))) (
   sndC (sd_get (C := RX10) (T := TX10) (N := 18) (hc := rfl) (hin0 := iX10) (hk := by decide) (hlink := w_518) (hd := (by decide +kernel : decode cX10_priceOf 43 = .ok (.getfield 47, 3)))) (
   sndN))))))))))))))))))))))⟩
theorem kX10_priceOf_12 : CallAt mX10_priceOf 12 0 mX3_ofWitness 2 := ⟨by decide +kernel, ⟨_, (by decide +kernel : decode cX10_priceOf 12 = .ok (.invokevirtual 335, 3)), w_612, w_613, w_614⟩⟩
theorem kX10_priceOf_26 : CallAt mX10_priceOf 26 0 mX3_ofStep 4 := ⟨by decide +kernel, ⟨_, (by decide +kernel : decode cX10_priceOf 26 = .ok (.invokevirtual 331, 3)), w_622, w_623, w_624⟩⟩
theorem kX10_priceOf_46 : CallAt mX10_priceOf 46 0 mX8_value 2 := ⟨by decide +kernel, ⟨_, (by decide +kernel : decode cX10_priceOf 46 = .ok (.invokevirtual 345, 3)), w_626, w_627, w_628⟩⟩
theorem kX10_priceOf_49 : CallAt mX10_priceOf 49 1 mX1_price 3 := ⟨by decide +kernel, ⟨_, (by decide +kernel : decode cX10_priceOf 49 = .ok (.invokestatic 349, 3)), w_645, w_646⟩⟩

set_option maxRecDepth 20000 in
theorem GX10_fillPrices : Good mX10_fillPrices := ⟨by decide +kernel, List.mem_of_getElem? (i := 767) (by decide +kernel), inX10, ⟨by decide +kernel, by decide +kernel⟩, by decide, show ∀ q ∈ tX10_fillPrices, Snd mX10_fillPrices q.1 q.2 from
  sndC (sd_iconst (hd := (by decide +kernel : decode cX10_fillPrices 0 = .ok (.iconst 0, 1))) (hv := by decide)) (
   sndC (sd_istore_n (hi := rfl) (hd := (by decide +kernel : decode cX10_fillPrices 1 = .ok (.istore_n 1, 1)))) (
   sndC (sd_iload_n (hi := rfl) (hd := (by decide +kernel : decode cX10_fillPrices 2 = .ok (.iload_n 1, 1)))) (
   sndC (sd_aload_n (hi := rfl) (hd := (by decide +kernel : decode cX10_fillPrices 3 = .ok (.aload_n 0, 1)))) (
   sndC (sd_get (C := RX10) (T := TX10) (N := 18) (hc := rfl) (hin0 := iX10) (hk := by decide) (hlink := w_524) (hd := (by decide +kernel : decode cX10_fillPrices 4 = .ok (.getfield 130, 3)))) (
   sndC (sd_cmp_ge (ht := by decide) (hd := (by decide +kernel : decode cX10_fillPrices 7 = .ok (.if_icmp .ge 36, 3)))) (
   sndC (sd_aload_n (hi := rfl) (hd := (by decide +kernel : decode cX10_fillPrices 10 = .ok (.aload_n 0, 1)))) (
   sndC (sd_iload_n (hi := rfl) (hd := (by decide +kernel : decode cX10_fillPrices 11 = .ok (.iload_n 1, 1)))) (
   sndC (sd_astore_n (hi := rfl) (hd := (by decide +kernel : decode cX10_fillPrices 15 = .ok (.astore_n 2, 1)))) (
   sndC (sd_aload_n (hi := rfl) (hd := (by decide +kernel : decode cX10_fillPrices 16 = .ok (.aload_n 0, 1)))) (
   sndC (sd_get (C := RX10) (T := TX10) (N := 18) (hc := rfl) (hin0 := iX10) (hk := by decide) (hlink := w_522) (hd := (by decide +kernel : decode cX10_fillPrices 17 = .ok (.getfield 68, 3)))) (
   sndC (sd_iload_n (hi := rfl) (hd := (by decide +kernel : decode cX10_fillPrices 20 = .ok (.iload_n 1, 1)))) (
   sndC (sd_aload_n (hi := rfl) (hd := (by decide +kernel : decode cX10_fillPrices 21 = .ok (.aload_n 2, 1)))) (
   sndC (sd_ifnonnull (ht := by decide) (hd := (by decide +kernel : decode cX10_fillPrices 22 = .ok (.ifnonnull 7, 3)))) (
   sndC (sd_iconst (hd := (by decide +kernel : decode cX10_fillPrices 25 = .ok (.iconst 0, 1))) (hv := by decide)) (
   sndC (sd_goto (ht := by decide) (hd := (by decide +kernel : decode cX10_fillPrices 26 = .ok (.goto 8, 3)))) (
   sndC (sd_aload_n (hi := rfl) (hd := (by decide +kernel : decode cX10_fillPrices 29 = .ok (.aload_n 0, 1)))) (
   sndC (sd_aload_n (hi := rfl) (hd := (by decide +kernel : decode cX10_fillPrices 30 = .ok (.aload_n 2, 1)))) (
   sndC (sd_iinc (hv := by decide) (hd := (by decide +kernel : decode cX10_fillPrices 37 = .ok (.iinc 1 1, 3)))) (
   sndC (sd_goto (ht := by decide) (hd := (by decide +kernel : decode cX10_fillPrices 40 = .ok (.goto (-38), 3)))) (
   sndN))))))))))))))))))))⟩
theorem kX10_fillPrices_12 : CallAt mX10_fillPrices 12 0 mX10_witnessAt 1 := ⟨by decide +kernel, ⟨_, (by decide +kernel : decode cX10_fillPrices 12 = .ok (.invokevirtual 112, 3)), w_586, w_588, w_11⟩⟩
theorem kX10_fillPrices_31 : CallAt mX10_fillPrices 31 0 mX10_priceOf 1 := ⟨by decide +kernel, ⟨_, (by decide +kernel : decode cX10_fillPrices 31 = .ok (.invokevirtual 157, 3)), w_608, w_610, w_12⟩⟩
theorem kX10_fillPrices_34 : CallAt mX10_fillPrices 34 1 mX5_put 3 := ⟨by decide +kernel, ⟨_, (by decide +kernel : decode cX10_fillPrices 34 = .ok (.invokestatic 168, 3)), w_585, w_432⟩⟩

set_option maxRecDepth 20000 in
theorem GX10_priceOfSet : Good mX10_priceOfSet := ⟨by decide +kernel, List.mem_of_getElem? (i := 771) (by decide +kernel), inX10, ⟨by decide +kernel, by decide +kernel⟩, by decide, show ∀ q ∈ tX10_priceOfSet, Snd mX10_priceOfSet q.1 q.2 from
  sndC (sd_iconst (hd := (by decide +kernel : decode cX10_priceOfSet 0 = .ok (.iconst 0, 1))) (hv := by decide)) (
   sndC (sd_istore_n (hi := rfl) (hd := (by decide +kernel : decode cX10_priceOfSet 1 = .ok (.istore_n 2, 1)))) (
   sndC (sd_iconst (hd := (by decide +kernel : decode cX10_priceOfSet 2 = .ok (.iconst 0, 1))) (hv := by decide)) (
   sndC (sd_istore_n (hi := rfl) (hd := (by decide +kernel : decode cX10_priceOfSet 3 = .ok (.istore_n 3, 1)))) (
   sndC (sd_iload_n (hi := rfl) (hd := (by decide +kernel : decode cX10_priceOfSet 4 = .ok (.iload_n 3, 1)))) (
   sndC (sd_aload_n (hi := rfl) (hd := (by decide +kernel : decode cX10_priceOfSet 5 = .ok (.aload_n 0, 1)))) (
   sndC (sd_get (C := RX10) (T := TX10) (N := 18) (hc := rfl) (hin0 := iX10) (hk := by decide) (hlink := w_524) (hd := (by decide +kernel : decode cX10_priceOfSet 6 = .ok (.getfield 130, 3)))) (
   sndC (sd_cmp_ge (ht := by decide) (hd := (by decide +kernel : decode cX10_priceOfSet 9 = .ok (.if_icmp .ge 29, 3)))) (
   sndC (sd_iload_n (hi := rfl) (hd := (by decide +kernel : decode cX10_priceOfSet 12 = .ok (.iload_n 1, 1)))) (
   sndC (sd_iload_n (hi := rfl) (hd := (by decide +kernel : decode cX10_priceOfSet 13 = .ok (.iload_n 3, 1)))) (
   sndC (sd_ishr (hd := (by decide +kernel : decode cX10_priceOfSet 14 = .ok (.ishr, 1)))) (
   sndC (sd_iconst (hd := (by decide +kernel : decode cX10_priceOfSet 15 = .ok (.iconst 1, 1))) (hv := by decide)) (
   sndC (sd_iand (hd := (by decide +kernel : decode cX10_priceOfSet 16 = .ok (.iand, 1)))) (
   sndC (sd_iconst (hd := (by decide +kernel : decode cX10_priceOfSet 17 = .ok (.iconst 1, 1))) (hv := by decide)) (
   sndC (sd_cmp_ne (ht := by decide) (hd := (by decide +kernel : decode cX10_priceOfSet 18 = .ok (.if_icmp .ne 14, 3)))) (
   sndC (sd_iload_n (hi := rfl) (hd := (by decide +kernel : decode cX10_priceOfSet 21 = .ok (.iload_n 2, 1)))) (
   sndC (sd_aload_n (hi := rfl) (hd := (by decide +kernel : decode cX10_priceOfSet 22 = .ok (.aload_n 0, 1)))) (
   sndC (sd_get (C := RX10) (T := TX10) (N := 18) (hc := rfl) (hin0 := iX10) (hk := by decide) (hlink := w_522) (hd := (by decide +kernel : decode cX10_priceOfSet 23 = .ok (.getfield 68, 3)))) (
   sndC (sd_iload_n (hi := rfl) (hd := (by decide +kernel : decode cX10_priceOfSet 26 = .ok (.iload_n 3, 1)))) (
   sndC (sd_iadd (hd := (by decide +kernel : decode cX10_priceOfSet 30 = .ok (.iadd, 1)))) (
   sndC (sd_istore_n (hi := rfl) (hd := (by decide +kernel : decode cX10_priceOfSet 31 = .ok (.istore_n 2, 1)))) (
   sndC (sd_iinc (hv := by decide) (hd := (by decide +kernel : decode cX10_priceOfSet 32 = .ok (.iinc 3 1, 3)))) (
   sndC (sd_goto (ht := by decide) (hd := (by decide +kernel : decode cX10_priceOfSet 35 = .ok (.goto (-31), 3)))) (
   sndC (sd_iload_n (hi := rfl) (hd := (by decide +kernel : decode cX10_priceOfSet 38 = .ok (.iload_n 2, 1)))) (
   sndN))))))))))))))))))))))))⟩
theorem kX10_priceOfSet_27 : CallAt mX10_priceOfSet 27 1 mX5_at 2 := ⟨by decide +kernel, ⟨_, (by decide +kernel : decode cX10_priceOfSet 27 = .ok (.invokestatic 140, 3)), w_584, w_391⟩⟩

set_option maxRecDepth 20000 in
theorem GX10_priceOfSent : Good mX10_priceOfSent := ⟨by decide +kernel, List.mem_of_getElem? (i := 763) (by decide +kernel), inX10, ⟨by decide +kernel, by decide +kernel⟩, by decide, show ∀ q ∈ tX10_priceOfSent, Snd mX10_priceOfSent q.1 q.2 from
  sndC (sd_aload_n (hi := rfl) (hd := (by decide +kernel : decode cX10_priceOfSent 0 = .ok (.aload_n 0, 1)))) (
   sndC (sd_aload_n (hi := rfl) (hd := (by decide +kernel : decode cX10_priceOfSent 4 = .ok (.aload_n 0, 1)))) (
   sndC (sd_aload_n (hi := rfl) (hd := (by decide +kernel : decode cX10_priceOfSent 5 = .ok (.aload_n 0, 1)))) (
   sndN)))⟩
theorem kX10_priceOfSent_1 : CallAt mX10_priceOfSent 1 0 mX10_fillPrices 0 := ⟨by decide +kernel, ⟨_, (by decide +kernel : decode cX10_priceOfSent 1 = .ok (.invokevirtual 225, 3)), w_764, w_766, w_23⟩⟩
theorem kX10_priceOfSent_6 : CallAt mX10_priceOfSent 6 0 mX10_sentBits 0 := ⟨by decide +kernel, ⟨_, (by decide +kernel : decode cX10_priceOfSent 6 = .ok (.invokevirtual 183, 3)), w_723, w_725, w_17⟩⟩
theorem kX10_priceOfSent_9 : CallAt mX10_priceOfSent 9 0 mX10_priceOfSet 1 := ⟨by decide +kernel, ⟨_, (by decide +kernel : decode cX10_priceOfSent 9 = .ok (.invokevirtual 232, 3)), w_768, w_770, w_24⟩⟩

set_option maxRecDepth 20000 in
theorem GX10_weightOfLife : Good mX10_weightOfLife := ⟨by decide +kernel, List.mem_of_getElem? (i := 759) (by decide +kernel), inX10, ⟨by decide +kernel, by decide +kernel⟩, by decide, show ∀ q ∈ tX10_weightOfLife, Snd mX10_weightOfLife q.1 q.2 from
  sndC (sd_aload_n (hi := rfl) (hd := (by decide +kernel : decode cX10_weightOfLife 0 = .ok (.aload_n 0, 1)))) (
   sndC (sd_get (C := RX10) (T := TX10) (N := 18) (hc := rfl) (hin0 := iX10) (hk := by decide) (hlink := w_518) (hd := (by decide +kernel : decode cX10_weightOfLife 1 = .ok (.getfield 47, 3)))) (
   sndC (sd_iconst (hd := (by decide +kernel : decode cX10_weightOfLife 4 = .ok (.iconst 0, 1))) (hv := by decide)) (
   sndC (sd_iconst (hd := (by decide +kernel : decode cX10_weightOfLife 5 = .ok (.iconst 0, 1))) (hv := by decide)) (
   sndC (sd_iconst (hd := (by decide +kernel : decode cX10_weightOfLife 9 = .ok (.iconst 0, 1))) (hv := by decide)) (
   sndC (sd_istore_n (hi := rfl) (hd := (by decide +kernel : decode cX10_weightOfLife 10 = .ok (.istore_n 2, 1)))) (
   sndC (sd_iconst (hd := (by decide +kernel : decode cX10_weightOfLife 11 = .ok (.iconst 0, 1))) (hv := by decide)) (
   sndC (sd_istore_n (hi := rfl) (hd := (by decide +kernel : decode cX10_weightOfLife 12 = .ok (.istore_n 3, 1)))) (
   sndC (sd_iload_n (hi := rfl) (hd := (by decide +kernel : decode cX10_weightOfLife 13 = .ok (.iload_n 3, 1)))) (
   sndC (sd_bipush (hd := (by decide +kernel : decode cX10_weightOfLife 14 = .ok (.bipush 6, 2))) (hv := by decide)) (
   sndC (sd_cmp_ge (ht := by decide) (hd := (by decide +kernel : decode cX10_weightOfLife 16 = .ok (.if_icmp .ge 29, 3)))) (
   sndC (sd_aload_n (hi := rfl) (hd := (by decide +kernel : decode cX10_weightOfLife 19 = .ok (.aload_n 0, 1)))) (
   sndC (sd_iload_n (hi := rfl) (hd := (by decide +kernel : decode cX10_weightOfLife 20 = .ok (.iload_n 3, 1)))) (
   sndC (sd_iload_n (hi := rfl) (hd := (by decide +kernel : decode cX10_weightOfLife 24 = .ok (.iload_n 2, 1)))) (
   sndC (sd_aload_n (hi := rfl) (hd := (by decide +kernel : decode cX10_weightOfLife 25 = .ok (.aload_n 0, 1)))) (
   sndC (sd_get (C := RX10) (T := TX10) (N := 18) (hc := rfl) (hin0 := iX10) (hk := by decide) (hlink := w_528) (hd := (by decide +kernel : decode cX10_weightOfLife 26 = .ok (.getfield 100, 3)))) (
   sndC (sd_iload_n (hi := rfl) (hd := (by decide +kernel : decode cX10_weightOfLife 29 = .ok (.iload_n 1, 1)))) (
   sndC (sd_aload_n (hi := rfl) (hd := (by decide +kernel : decode cX10_weightOfLife 30 = .ok (.aload_n 0, 1)))) (
   sndC (sd_get (C := RX10) (T := TX10) (N := 18) (hc := rfl) (hin0 := iX10) (hk := by decide) (hlink := w_518) (hd := (by decide +kernel : decode cX10_weightOfLife 31 = .ok (.getfield 47, 3)))) (
   sndC (sd_iadd (hd := (by decide +kernel : decode cX10_weightOfLife 37 = .ok (.iadd, 1)))) (
   sndC (sd_istore_n (hi := rfl) (hd := (by decide +kernel : decode cX10_weightOfLife 38 = .ok (.istore_n 2, 1)))) (
   sndC (sd_iinc (hv := by decide) (hd := (by decide +kernel : decode cX10_weightOfLife 39 = .ok (.iinc 3 1, 3)))) (
   sndC (sd_goto (ht := by decide) (hd := (by decide +kernel : decode cX10_weightOfLife 42 = .ok (.goto (-29), 3)))) (
   sndC (sd_iload_n (hi := rfl) (hd := (by decide +kernel : decode cX10_weightOfLife 45 = .ok (.iload_n 2, 1)))) (
   sndN))))))))))))))))))))))))⟩
theorem kX10_weightOfLife_6 : CallAt mX10_weightOfLife 6 0 mX3_ofWitness 2 := ⟨by decide +kernel, ⟨_, (by decide +kernel : decode cX10_weightOfLife 6 = .ok (.invokevirtual 335, 3)), w_612, w_613, w_614⟩⟩
theorem kX10_weightOfLife_21 : CallAt mX10_weightOfLife 21 0 mX10_nameStep 1 := ⟨by decide +kernel, ⟨_, (by decide +kernel : decode cX10_weightOfLife 21 = .ok (.invokevirtual 338, 3)), w_652, w_654, w_14⟩⟩
theorem kX10_weightOfLife_34 : CallAt mX10_weightOfLife 34 0 mX8_value 2 := ⟨by decide +kernel, ⟨_, (by decide +kernel : decode cX10_weightOfLife 34 = .ok (.invokevirtual 345, 3)), w_626, w_627, w_628⟩⟩

set_option maxRecDepth 20000 in
theorem GX10_fillWeights : Good mX10_fillWeights := ⟨by decide +kernel, List.mem_of_getElem? (i := 796) (by decide +kernel), inX10, ⟨by decide +kernel, by decide +kernel⟩, by decide, show ∀ q ∈ tX10_fillWeights, Snd mX10_fillWeights q.1 q.2 from
  sndC (sd_aload_n (hi := rfl) (hd := (by decide +kernel : decode cX10_fillWeights 0 = .ok (.aload_n 0, 1)))) (
   sndC (sd_get (C := RX10) (T := TX10) (N := 18) (hc := rfl) (hin0 := iX10) (hk := by decide) (hlink := w_518) (hd := (by decide +kernel : decode cX10_fillWeights 1 = .ok (.getfield 47, 3)))) (
   sndC (sd_iconst (hd := (by decide +kernel : decode cX10_fillWeights 4 = .ok (.iconst 0, 1))) (hv := by decide)) (
   sndC (sd_iconst (hd := (by decide +kernel : decode cX10_fillWeights 5 = .ok (.iconst 0, 1))) (hv := by decide)) (
   sndC (sd_iconst (hd := (by decide +kernel : decode cX10_fillWeights 9 = .ok (.iconst 0, 1))) (hv := by decide)) (
   sndC (sd_istore_n (hi := rfl) (hd := (by decide +kernel : decode cX10_fillWeights 10 = .ok (.istore_n 3, 1)))) (
   sndC (sd_iload_n (hi := rfl) (hd := (by decide +kernel : decode cX10_fillWeights 11 = .ok (.iload_n 3, 1)))) (
   sndC (sd_aload_n (hi := rfl) (hd := (by decide +kernel : decode cX10_fillWeights 12 = .ok (.aload_n 0, 1)))) (
   sndC (sd_get (C := RX10) (T := TX10) (N := 18) (hc := rfl) (hin0 := iX10) (hk := by decide) (hlink := w_521) (hd := (by decide +kernel : decode cX10_fillWeights 13 = .ok (.getfield 65, 3)))) (
   sndC (sd_len (hd := (by decide +kernel : decode cX10_fillWeights 16 = .ok (.arraylength, 1)))) (
   sndC (sd_cmp_ge (ht := by decide) (hd := (by decide +kernel : decode cX10_fillWeights 17 = .ok (.if_icmp .ge 59, 3)))) (
   sndC (sd_iload_n (hi := rfl) (hd := (by decide +kernel : decode cX10_fillWeights 20 = .ok (.iload_n 3, 1)))) (
   sndC (sd_istore (hd := (by decide +kernel : decode cX10_fillWeights 24 = .ok (.istore 4, 2)))) (
   sndC (sd_aload_n (hi := rfl) (hd := (by decide +kernel : decode cX10_fillWeights 26 = .ok (.aload_n 0, 1)))) (
   sndC (sd_get (C := RX10) (T := TX10) (N := 18) (hc := rfl) (hin0 := iX10) (hk := by decide) (hlink := w_518) (hd := (by decide +kernel : decode cX10_fillWeights 27 = .ok (.getfield 47, 3)))) (
   sndC (sd_iload (hd := (by decide +kernel : decode cX10_fillWeights 30 = .ok (.iload 4, 2)))) (
   sndC (sd_iload_n (hi := rfl) (hd := (by decide +kernel : decode cX10_fillWeights 32 = .ok (.iload_n 3, 1)))) (
   sndC (sd_iload_n (hi := rfl) (hd := (by decide +kernel : decode cX10_fillWeights 36 = .ok (.iload_n 3, 1)))) (
   sndC (sd_aload_n (hi := rfl) (hd := (by decide +kernel : decode cX10_fillWeights 40 = .ok (.aload_n 0, 1)))) (
   sndC (sd_get (C := RX10) (T := TX10) (N := 18) (hc := rfl) (hin0 := iX10) (hk := by decide) (hlink := w_523) (hd := (by decide +kernel : decode cX10_fillWeights 41 = .ok (.getfield 71, 3)))) (
   sndC (sd_iload (hd := (by decide +kernel : decode cX10_fillWeights 44 = .ok (.iload 4, 2)))) (
   sndC (sd_iadd (hd := (by decide +kernel : decode cX10_fillWeights 46 = .ok (.iadd, 1)))) (
   sndC (sd_aload_n (hi := rfl) (hd := (by decide +kernel : decode cX10_fillWeights 50 = .ok (.aload_n 0, 1)))) (
   sndC (sd_get (C := RX10) (T := TX10) (N := 18) (hc := rfl) (hin0 := iX10) (hk := by decide) (hlink := w_521) (hd := (by decide +kernel : decode cX10_fillWeights 51 = .ok (.getfield 65, 3)))) (
   sndC (sd_iload_n (hi := rfl) (hd := (by decide +kernel : decode cX10_fillWeights 54 = .ok (.iload_n 3, 1)))) (
   sndC (sd_iload_n (hi := rfl) (hd := (by decide +kernel : decode cX10_fillWeights 55 = .ok (.iload_n 2, 1)))) (
   sndC (sd_aload_n (hi := rfl) (hd := (by decide +kernel : decode cX10_fillWeights 56 = .ok (.aload_n 0, 1)))) (
   sndC (sd_get (C := RX10) (T := TX10) (N := 18) (hc := rfl) (hin0 := iX10) (hk := by decide) (hlink := w_528) (hd := (by decide +kernel : decode cX10_fillWeights 57 = .ok (.getfield 100, 3)))) (
   sndC (sd_iload_n (hi := rfl) (hd := (by decide +kernel : decode cX10_fillWeights 60 = .ok (.iload_n 1, 1)))) (
   sndC (sd_aload_n (hi := rfl) (hd := (by decide +kernel : decode cX10_fillWeights 61 = .ok (.aload_n 0, 1)))) (
   sndC (sd_get (C := RX10) (T := TX10) (N := 18) (hc := rfl) (hin0 := iX10) (hk := by decide) (hlink := w_518) (hd := (by decide +kernel : decode cX10_fillWeights 62 = .ok (.getfield 47, 3)))) (
   sndC (sd_imul (hd := (by decide +kernel : decode cX10_fillWeights 68 = .ok (.imul, 1)))) (
   sndC (sd_iast (hd := (by decide +kernel : decode cX10_fillWeights 69 = .ok (.iastore, 1)))) (
   sndC (sd_iinc (hv := by decide) (hd := (by decide +kernel : decode cX10_fillWeights 70 = .ok (.iinc 3 1, 3)))) (
   sndC (sd_goto (ht := by decide) (hd := (by decide +kernel : decode cX10_fillWeights 73 = .ok (.goto (-62), 3)))) (
   sndN)))))))))))))))))))))))))))))))))))⟩
theorem kX10_fillWeights_6 : CallAt mX10_fillWeights 6 0 mX3_ofWitness 2 := ⟨by decide +kernel, ⟨_, (by decide +kernel : decode cX10_fillWeights 6 = .ok (.invokevirtual 335, 3)), w_612, w_613, w_614⟩⟩
theorem kX10_fillWeights_21 : CallAt mX10_fillWeights 21 1 mX5_stepOf 1 := ⟨by decide +kernel, ⟨_, (by decide +kernel : decode cX10_fillWeights 21 = .ok (.invokestatic 352, 3)), w_797, w_700⟩⟩
theorem kX10_fillWeights_33 : CallAt mX10_fillWeights 33 1 mX5_doingOf 1 := ⟨by decide +kernel, ⟨_, (by decide +kernel : decode cX10_fillWeights 33 = .ok (.invokestatic 355, 3)), w_798, w_703⟩⟩
theorem kX10_fillWeights_37 : CallAt mX10_fillWeights 37 1 mX5_lastOf 1 := ⟨by decide +kernel, ⟨_, (by decide +kernel : decode cX10_fillWeights 37 = .ok (.invokestatic 358, 3)), w_799, w_706⟩⟩
theorem kX10_fillWeights_47 : CallAt mX10_fillWeights 47 0 mX3_ofStep 4 := ⟨by decide +kernel, ⟨_, (by decide +kernel : decode cX10_fillWeights 47 = .ok (.invokevirtual 331, 3)), w_622, w_623, w_624⟩⟩
theorem kX10_fillWeights_65 : CallAt mX10_fillWeights 65 0 mX8_value 2 := ⟨by decide +kernel, ⟨_, (by decide +kernel : decode cX10_fillWeights 65 = .ok (.invokevirtual 345, 3)), w_626, w_627, w_628⟩⟩

set_option maxRecDepth 20000 in
theorem GX10_compareWith : Good mX10_compareWith := ⟨by decide +kernel, List.mem_of_getElem? (i := 686) (by decide +kernel), inX10, ⟨by decide +kernel, by decide +kernel⟩, by decide, show ∀ q ∈ tX10_compareWith, Snd mX10_compareWith q.1 q.2 from
  sndC (sd_aload_n (hi := rfl) (hd := (by decide +kernel : decode cX10_compareWith 0 = .ok (.aload_n 0, 1)))) (
   sndC (sd_get (C := RX10) (T := TX10) (N := 18) (hc := rfl) (hin0 := iX10) (hk := by decide) (hlink := w_519) (hd := (by decide +kernel : decode cX10_compareWith 1 = .ok (.getfield 54, 3)))) (
   sndC (sd_iconst (hd := (by decide +kernel : decode cX10_compareWith 7 = .ok (.iconst 0, 1))) (hv := by decide)) (
   sndC (sd_istore_n (hi := rfl) (hd := (by decide +kernel : decode cX10_compareWith 8 = .ok (.istore_n 2, 1)))) (
   sndC (sd_iload_n (hi := rfl) (hd := (by decide +kernel : decode cX10_compareWith 9 = .ok (.iload_n 2, 1)))) (
   sndC (sd_aload_n (hi := rfl) (hd := (by decide +kernel : decode cX10_compareWith 10 = .ok (.aload_n 0, 1)))) (
   sndC (sd_get (C := RX10) (T := TX10) (N := 18) (hc := rfl) (hin0 := iX10) (hk := by decide) (hlink := w_524) (hd := (by decide +kernel : decode cX10_compareWith 11 = .ok (.getfield 130, 3)))) (
   sndC (sd_cmp_ge (ht := by decide) (hd := (by decide +kernel : decode cX10_compareWith 14 = .ok (.if_icmp .ge 54, 3)))) (
   sndC (sd_aload_n (hi := rfl) (hd := (by decide +kernel : decode cX10_compareWith 17 = .ok (.aload_n 0, 1)))) (
   sndC (sd_iload_n (hi := rfl) (hd := (by decide +kernel : decode cX10_compareWith 18 = .ok (.iload_n 2, 1)))) (
   sndC (sd_astore_n (hi := rfl) (hd := (by decide +kernel : decode cX10_compareWith 22 = .ok (.astore_n 3, 1)))) (
   sndC (sd_aload_n (hi := rfl) (hd := (by decide +kernel : decode cX10_compareWith 23 = .ok (.aload_n 3, 1)))) (
   sndC (sd_ifnull (ht := by decide) (hd := (by decide +kernel : decode cX10_compareWith 24 = .ok (.ifnull 38, 3)))) (
   sndC (sd_aload_n (hi := rfl) (hd := (by decide +kernel : decode cX10_compareWith 27 = .ok (.aload_n 3, 1)))) (
   sndC (sd_aload_n (hi := rfl) (hd := (by decide +kernel : decode cX10_compareWith 28 = .ok (.aload_n 0, 1)))) (
   sndC (sd_get (C := RX10) (T := TX10) (N := 18) (hc := rfl) (hin0 := iX10) (hk := by decide) (hlink := w_528) (hd := (by decide +kernel : decode cX10_compareWith 29 = .ok (.getfield 100, 3)))) (
   sndC (sd_aload_n (hi := rfl) (hd := (by decide +kernel : decode cX10_compareWith 32 = .ok (.aload_n 0, 1)))) (
   sndC (sd_get (C := RX10) (T := TX10) (N := 18) (hc := rfl) (hin0 := iX10) (hk := by decide) (hlink := w_527) (hd := (by decide +kernel : decode cX10_compareWith 33 = .ok (.getfield 176, 3)))) (
   sndC (sd_aload_n (hi := rfl) (hd := (by decide +kernel : decode cX10_compareWith 36 = .ok (.aload_n 0, 1)))) (
   sndC (sd_get (C := RX10) (T := TX10) (N := 18) (hc := rfl) (hin0 := iX10) (hk := by decide) (hlink := w_523) (hd := (by decide +kernel : decode cX10_compareWith 37 = .ok (.getfield 71, 3)))) (
   sndC (sd_aload_n (hi := rfl) (hd := (by decide +kernel : decode cX10_compareWith 40 = .ok (.aload_n 0, 1)))) (
   sndC (sd_get (C := RX10) (T := TX10) (N := 18) (hc := rfl) (hin0 := iX10) (hk := by decide) (hlink := w_518) (hd := (by decide +kernel : decode cX10_compareWith 41 = .ok (.getfield 47, 3)))) (
   sndC (sd_aload_n (hi := rfl) (hd := (by decide +kernel : decode cX10_compareWith 47 = .ok (.aload_n 0, 1)))) (
   sndC (sd_get (C := RX10) (T := TX10) (N := 18) (hc := rfl) (hin0 := iX10) (hk := by decide) (hlink := w_519) (hd := (by decide +kernel : decode cX10_compareWith 48 = .ok (.getfield 54, 3)))) (
   sndC (sd_aload_n (hi := rfl) (hd := (by decide +kernel : decode cX10_compareWith 51 = .ok (.aload_n 3, 1)))) (
   sndC (sd_get (C := RX9) (T := TX9) (N := 10) (hc := rfl) (hin0 := iX9) (hk := by decide) (hlink := w_274) (hd := (by decide +kernel : decode cX10_compareWith 52 = .ok (.getfield 368, 3)))) (
   sndC (sd_aload_n (hi := rfl) (hd := (by decide +kernel : decode cX10_compareWith 55 = .ok (.aload_n 1, 1)))) (
   sndC (sd_iconst (hd := (by decide +kernel : decode cX10_compareWith 56 = .ok (.iconst 1, 1))) (hv := by decide)) (
   sndC (sd_iload_n (hi := rfl) (hd := (by decide +kernel : decode cX10_compareWith 57 = .ok (.iload_n 2, 1)))) (
   sndC (sd_ishl (hd := (by decide +kernel : decode cX10_compareWith 58 = .ok (.ishl, 1)))) (
   sndC (sd_iinc (hv := by decide) (hd := (by decide +kernel : decode cX10_compareWith 62 = .ok (.iinc 2 1, 3)))) (
   sndC (sd_goto (ht := by decide) (hd := (by decide +kernel : decode cX10_compareWith 65 = .ok (.goto (-56), 3)))) (
   sndN))))))))))))))))))))))))))))))))⟩
theorem kX10_compareWith_4 : CallAt mX10_compareWith 4 0 mX2_forget 0 := ⟨by decide +kernel, ⟨_, (by decide +kernel : decode cX10_compareWith 4 = .ok (.invokevirtual 361, 3)), w_687, w_688, w_689⟩⟩
theorem kX10_compareWith_19 : CallAt mX10_compareWith 19 0 mX10_witnessAt 1 := ⟨by decide +kernel, ⟨_, (by decide +kernel : decode cX10_compareWith 19 = .ok (.invokevirtual 112, 3)), w_586, w_588, w_11⟩⟩
theorem kX10_compareWith_44 : CallAt mX10_compareWith 44 0 mX9_learn 4 := ⟨by decide +kernel, ⟨_, (by decide +kernel : decode cX10_compareWith 44 = .ok (.invokevirtual 364, 3)), w_694, w_695, w_696⟩⟩
theorem kX10_compareWith_59 : CallAt mX10_compareWith 59 0 mX2_markAlike 3 := ⟨by decide +kernel, ⟨_, (by decide +kernel : decode cX10_compareWith 59 = .ok (.invokevirtual 371, 3)), w_710, w_711, w_712⟩⟩

set_option maxRecDepth 20000 in
theorem GX10_bestToSendFor : Good mX10_bestToSendFor := ⟨by decide +kernel, List.mem_of_getElem? (i := 824) (by decide +kernel), inX10, ⟨by decide +kernel, by decide +kernel⟩, by decide, show ∀ q ∈ tX10_bestToSendFor, Snd mX10_bestToSendFor q.1 q.2 from
  sndC (sd_aload_n (hi := rfl) (hd := (by decide +kernel : decode cX10_bestToSendFor 0 = .ok (.aload_n 0, 1)))) (
   sndC (sd_aload_n (hi := rfl) (hd := (by decide +kernel : decode cX10_bestToSendFor 1 = .ok (.aload_n 0, 1)))) (
   sndC (sd_get (C := RX10) (T := TX10) (N := 18) (hc := rfl) (hin0 := iX10) (hk := by decide) (hlink := w_511) (hd := (by decide +kernel : decode cX10_bestToSendFor 2 = .ok (.getfield 9, 3)))) (
   sndC (sd_aload_n (hi := rfl) (hd := (by decide +kernel : decode cX10_bestToSendFor 8 = .ok (.aload_n 0, 1)))) (
   sndC (sd_istore_n (hi := rfl) (hd := (by decide +kernel : decode cX10_bestToSendFor 12 = .ok (.istore_n 3, 1)))) (
   sndC (sd_iconst (hd := (by decide +kernel : decode cX10_bestToSendFor 13 = .ok (.iconst (-1), 1))) (hv := by decide)) (
   sndC (sd_istore (hd := (by decide +kernel : decode cX10_bestToSendFor 14 = .ok (.istore 4, 2)))) (
   sndC (sd_aload_n (hi := rfl) (hd := (by decide +kernel : decode cX10_bestToSendFor 16 = .ok (.aload_n 0, 1)))) (
   sndC (sd_get (C := RX10) (T := TX10) (N := 18) (hc := rfl) (hin0 := iX10) (hk := by decide) (hlink := w_519) (hd := (by decide +kernel : decode cX10_bestToSendFor 17 = .ok (.getfield 54, 3)))) (
   sndC (sd_iload_n (hi := rfl) (hd := (by decide +kernel : decode cX10_bestToSendFor 20 = .ok (.iload_n 3, 1)))) (
   sndC (sd_istore (hd := (by decide +kernel : decode cX10_bestToSendFor 24 = .ok (.istore 5, 2)))) (
   sndC (sd_iconst (hd := (by decide +kernel : decode cX10_bestToSendFor 26 = .ok (.iconst 0, 1))) (hv := by decide)) (
   sndC (sd_istore (hd := (by decide +kernel : decode cX10_bestToSendFor 27 = .ok (.istore 6, 2)))) (
   sndC (sd_iload (hd := (by decide +kernel : decode cX10_bestToSendFor 29 = .ok (.iload 6, 2)))) (
   sndC (sd_aload_n (hi := rfl) (hd := (by decide +kernel : decode cX10_bestToSendFor 31 = .ok (.aload_n 0, 1)))) (
   sndC (sd_get (C := RX10) (T := TX10) (N := 18) (hc := rfl) (hin0 := iX10) (hk := by decide) (hlink := w_524) (hd := (by decide +kernel : decode cX10_bestToSendFor 32 = .ok (.getfield 130, 3)))) (
   sndC (sd_cmp_ge (ht := by decide) (hd := (by decide +kernel : decode cX10_bestToSendFor 35 = .ok (.if_icmp .ge 86, 3)))) (
   sndC (sd_aload_n (hi := rfl) (hd := (by decide +kernel : decode cX10_bestToSendFor 38 = .ok (.aload_n 0, 1)))) (
   sndC (sd_iload (hd := (by decide +kernel : decode cX10_bestToSendFor 39 = .ok (.iload 6, 2)))) (
   sndC (sd_astore (hd := (by decide +kernel : decode cX10_bestToSendFor 44 = .ok (.astore 7, 2)))) (
   sndC (sd_aload (hd := (by decide +kernel : decode cX10_bestToSendFor 46 = .ok (.aload 7, 2)))) (
   sndC (sd_ifnull (ht := by decide) (hd := (by decide +kernel : decode cX10_bestToSendFor 48 = .ok (.ifnull 67, 3)))) (
   sndC (sd_aload (hd := (by decide +kernel : decode cX10_bestToSendFor 51 = .ok (.aload 7, 2)))) (
   sndC (sd_get (C := RX9) (T := TX9) (N := 10) (hc := rfl) (hin0 := iX9) (hk := by decide) (hlink := w_285) (hd := (by decide +kernel : decode cX10_bestToSendFor 53 = .ok (.getfield 151, 3)))) (
   sndC (sd_if_ne (ht := by decide) (hd := (by decide +kernel : decode cX10_bestToSendFor 56 = .ok (.ifCond .ne 59, 3)))) (
   sndC (sd_iload_n (hi := rfl) (hd := (by decide +kernel : decode cX10_bestToSendFor 59 = .ok (.iload_n 2, 1)))) (
   sndC (sd_if_eq (ht := by decide) (hd := (by decide +kernel : decode cX10_bestToSendFor 60 = .ok (.ifCond .eq 19, 3)))) (
   sndC (sd_aload_n (hi := rfl) (hd := (by decide +kernel : decode cX10_bestToSendFor 63 = .ok (.aload_n 0, 1)))) (
   sndC (sd_get (C := RX10) (T := TX10) (N := 18) (hc := rfl) (hin0 := iX10) (hk := by decide) (hlink := w_519) (hd := (by decide +kernel : decode cX10_bestToSendFor 64 = .ok (.getfield 54, 3)))) (
   sndC (sd_iload_n (hi := rfl) (hd := (by decide +kernel : decode cX10_bestToSendFor 67 = .ok (.iload_n 3, 1)))) (
   sndC (sd_aload (hd := (by decide +kernel : decode cX10_bestToSendFor 68 = .ok (.aload 7, 2)))) (
   sndC (sd_get (C := RX9) (T := TX9) (N := 10) (hc := rfl) (hin0 := iX9) (hk := by decide) (hlink := w_274) (hd := (by decide +kernel : decode cX10_bestToSendFor 70 = .ok (.getfield 368, 3)))) (
   sndC (sd_goto (ht := by decide) (hd := (by decide +kernel : decode cX10_bestToSendFor 76 = .ok (.goto 16, 3)))) (
   sndC (sd_aload_n (hi := rfl) (hd := (by decide +kernel : decode cX10_bestToSendFor 79 = .ok (.aload_n 0, 1)))) (
   sndC (sd_get (C := RX10) (T := TX10) (N := 18) (hc := rfl) (hin0 := iX10) (hk := by decide) (hlink := w_519) (hd := (by decide +kernel : decode cX10_bestToSendFor 80 = .ok (.getfield 54, 3)))) (
   sndC (sd_iload_n (hi := rfl) (hd := (by decide +kernel : decode cX10_bestToSendFor 83 = .ok (.iload_n 3, 1)))) (
   sndC (sd_iconst (hd := (by decide +kernel : decode cX10_bestToSendFor 84 = .ok (.iconst 1, 1))) (hv := by decide)) (
   sndC (sd_iload (hd := (by decide +kernel : decode cX10_bestToSendFor 85 = .ok (.iload 6, 2)))) (
   sndC (sd_ishl (hd := (by decide +kernel : decode cX10_bestToSendFor 87 = .ok (.ishl, 1)))) (
   sndC (sd_ior (hd := (by decide +kernel : decode cX10_bestToSendFor 88 = .ok (.ior, 1)))) (
   sndC (sd_istore (hd := (by decide +kernel : decode cX10_bestToSendFor 92 = .ok (.istore 8, 2)))) (
   sndC (sd_iload (hd := (by decide +kernel : decode cX10_bestToSendFor 94 = .ok (.iload 4, 2)))) (
   sndC (sd_iconst (hd := (by decide +kernel : decode cX10_bestToSendFor 96 = .ok (.iconst (-1), 1))) (hv := by decide)) (
   sndC (sd_cmp_eq (ht := by decide) (hd := (by decide +kernel : decode cX10_bestToSendFor 97 = .ok (.if_icmp .eq 10, 3)))) (
   sndC (sd_iload (hd := (by decide +kernel : decode cX10_bestToSendFor 100 = .ok (.iload 8, 2)))) (
   sndC (sd_iload (hd := (by decide +kernel : decode cX10_bestToSendFor 102 = .ok (.iload 5, 2)))) (
   sndC (sd_cmp_ge (ht := by decide) (hd := (by decide +kernel : decode cX10_bestToSendFor 104 = .ok (.if_icmp .ge 11, 3)))) (
   sndC (sd_iload (hd := (by decide +kernel : decode cX10_bestToSendFor 107 = .ok (.iload 6, 2)))) (
   sndC (sd_istore (hd := (by decide +kernel : decode cX10_bestToSendFor 109 = .ok (.istore 4, 2)))) (
   sndC (sd_iload (hd := (by decide +kernel : decode cX10_bestToSendFor 111 = .ok (.iload 8, 2)))) (
   sndC (sd_istore (hd := (by decide +kernel : decode cX10_bestToSendFor 113 = .ok (.istore 5, 2)))) (
   sndC (sd_iinc (hv := by decide) (hd := (by decide +kernel : decode cX10_bestToSendFor 115 = .ok (.iinc 6 1, 3)))) (
   sndC (sd_goto (ht := by decide) (hd := (by decide +kernel : decode cX10_bestToSendFor 118 = .ok (.goto (-89), 3)))) (
   sndC (sd_iload_n (hi := rfl) (hd := (by decide +kernel : decode cX10_bestToSendFor 121 = .ok (.iload_n 1, 1)))) (
   sndC (sd_if_ne (ht := by decide) (hd := (by decide +kernel : decode cX10_bestToSendFor 122 = .ok (.ifCond .ne 8, 3)))) (
   sndC (sd_iload (hd := (by decide +kernel : decode cX10_bestToSendFor 125 = .ok (.iload 4, 2)))) (
   sndC (sd_goto (ht := by decide) (hd := (by decide +kernel : decode cX10_bestToSendFor 127 = .ok (.goto 5, 3)))) (
   sndC (sd_iload (hd := (by decide +kernel : decode cX10_bestToSendFor 130 = .ok (.iload 5, 2)))) (
   sndN))))))))))))))))))))))))))))))))))))))))))))))))))))))))))⟩
theorem kX10_bestToSendFor_5 : CallAt mX10_bestToSendFor 5 0 mX10_compareWith 1 := ⟨by decide +kernel, ⟨_, (by decide +kernel : decode cX10_bestToSendFor 5 = .ok (.invokevirtual 179, 3)), w_683, w_685, w_16⟩⟩
theorem kX10_bestToSendFor_9 : CallAt mX10_bestToSendFor 9 0 mX10_sentBits 0 := ⟨by decide +kernel, ⟨_, (by decide +kernel : decode cX10_bestToSendFor 9 = .ok (.invokevirtual 183, 3)), w_723, w_725, w_17⟩⟩
theorem kX10_bestToSendFor_21 : CallAt mX10_bestToSendFor 21 0 mX2_fitting 1 := ⟨by decide +kernel, ⟨_, (by decide +kernel : decode cX10_bestToSendFor 21 = .ok (.invokevirtual 186, 3)), w_727, w_728, w_729⟩⟩
theorem kX10_bestToSendFor_41 : CallAt mX10_bestToSendFor 41 0 mX10_witnessAt 1 := ⟨by decide +kernel, ⟨_, (by decide +kernel : decode cX10_bestToSendFor 41 = .ok (.invokevirtual 112, 3)), w_586, w_588, w_11⟩⟩
theorem kX10_bestToSendFor_73 : CallAt mX10_bestToSendFor 73 0 mX2_mostToldAlike 2 := ⟨by decide +kernel, ⟨_, (by decide +kernel : decode cX10_bestToSendFor 73 = .ok (.invokevirtual 375, 3)), w_825, w_826, w_827⟩⟩
theorem kX10_bestToSendFor_89 : CallAt mX10_bestToSendFor 89 0 mX2_fitting 1 := ⟨by decide +kernel, ⟨_, (by decide +kernel : decode cX10_bestToSendFor 89 = .ok (.invokevirtual 186, 3)), w_727, w_728, w_729⟩⟩

set_option maxRecDepth 20000 in
theorem GX10_leastSet : Good mX10_leastSet := ⟨by decide +kernel, List.mem_of_getElem? (i := 864) (by decide +kernel), inX10, ⟨by decide +kernel, by decide +kernel⟩, by decide, show ∀ q ∈ tX10_leastSet, Snd mX10_leastSet q.1 q.2 from
  sndC (sd_iconst (hd := (by decide +kernel : decode cX10_leastSet 0 = .ok (.iconst (-1), 1))) (hv := by decide)) (
   sndC (sd_istore (hd := (by decide +kernel : decode cX10_leastSet 1 = .ok (.istore 4, 2)))) (
   sndC (sd_iconst (hd := (by decide +kernel : decode cX10_leastSet 3 = .ok (.iconst 0, 1))) (hv := by decide)) (
   sndC (sd_istore (hd := (by decide +kernel : decode cX10_leastSet 4 = .ok (.istore 5, 2)))) (
   sndC (sd_iconst (hd := (by decide +kernel : decode cX10_leastSet 6 = .ok (.iconst 0, 1))) (hv := by decide)) (
   sndC (sd_istore (hd := (by decide +kernel : decode cX10_leastSet 7 = .ok (.istore 6, 2)))) (
   sndC (sd_iload (hd := (by decide +kernel : decode cX10_leastSet 9 = .ok (.iload 6, 2)))) (
   sndC (sd_iload_n (hi := rfl) (hd := (by decide +kernel : decode cX10_leastSet 11 = .ok (.iload_n 1, 1)))) (
   sndC (sd_cmp_gt (ht := by decide) (hd := (by decide +kernel : decode cX10_leastSet 12 = .ok (.if_icmp .gt 63, 3)))) (
   sndC (sd_iload_n (hi := rfl) (hd := (by decide +kernel : decode cX10_leastSet 15 = .ok (.iload_n 3, 1)))) (
   sndC (sd_if_eq (ht := by decide) (hd := (by decide +kernel : decode cX10_leastSet 16 = .ok (.ifCond .eq 12, 3)))) (
   sndC (sd_aload_n (hi := rfl) (hd := (by decide +kernel : decode cX10_leastSet 19 = .ok (.aload_n 0, 1)))) (
   sndC (sd_iload (hd := (by decide +kernel : decode cX10_leastSet 20 = .ok (.iload 6, 2)))) (
   sndC (sd_goto (ht := by decide) (hd := (by decide +kernel : decode cX10_leastSet 25 = .ok (.goto 8, 3)))) (
   sndC (sd_iload (hd := (by decide +kernel : decode cX10_leastSet 28 = .ok (.iload 6, 2)))) (
   sndC (sd_istore (hd := (by decide +kernel : decode cX10_leastSet 33 = .ok (.istore 7, 2)))) (
   sndC (sd_iload (hd := (by decide +kernel : decode cX10_leastSet 35 = .ok (.iload 4, 2)))) (
   sndC (sd_iconst (hd := (by decide +kernel : decode cX10_leastSet 37 = .ok (.iconst (-1), 1))) (hv := by decide)) (
   sndC (sd_cmp_eq (ht := by decide) (hd := (by decide +kernel : decode cX10_leastSet 38 = .ok (.if_icmp .eq 10, 3)))) (
   sndC (sd_iload (hd := (by decide +kernel : decode cX10_leastSet 41 = .ok (.iload 7, 2)))) (
   sndC (sd_iload (hd := (by decide +kernel : decode cX10_leastSet 43 = .ok (.iload 5, 2)))) (
   sndC (sd_cmp_ge (ht := by decide) (hd := (by decide +kernel : decode cX10_leastSet 45 = .ok (.if_icmp .ge 24, 3)))) (
   sndC (sd_aload_n (hi := rfl) (hd := (by decide +kernel : decode cX10_leastSet 48 = .ok (.aload_n 0, 1)))) (
   sndC (sd_get (C := RX10) (T := TX10) (N := 18) (hc := rfl) (hin0 := iX10) (hk := by decide) (hlink := w_519) (hd := (by decide +kernel : decode cX10_leastSet 49 = .ok (.getfield 54, 3)))) (
   sndC (sd_iload (hd := (by decide +kernel : decode cX10_leastSet 52 = .ok (.iload 6, 2)))) (
   sndC (sd_iload_n (hi := rfl) (hd := (by decide +kernel : decode cX10_leastSet 57 = .ok (.iload_n 2, 1)))) (
   sndC (sd_cmp_ne (ht := by decide) (hd := (by decide +kernel : decode cX10_leastSet 58 = .ok (.if_icmp .ne 11, 3)))) (
   sndC (sd_iload (hd := (by decide +kernel : decode cX10_leastSet 61 = .ok (.iload 6, 2)))) (
   sndC (sd_istore (hd := (by decide +kernel : decode cX10_leastSet 63 = .ok (.istore 4, 2)))) (
   sndC (sd_iload (hd := (by decide +kernel : decode cX10_leastSet 65 = .ok (.iload 7, 2)))) (
   sndC (sd_istore (hd := (by decide +kernel : decode cX10_leastSet 67 = .ok (.istore 5, 2)))) (
   sndC (sd_iinc (hv := by decide) (hd := (by decide +kernel : decode cX10_leastSet 69 = .ok (.iinc 6 1, 3)))) (
   sndC (sd_goto (ht := by decide) (hd := (by decide +kernel : decode cX10_leastSet 72 = .ok (.goto (-63), 3)))) (
   sndC (sd_iload (hd := (by decide +kernel : decode cX10_leastSet 75 = .ok (.iload 4, 2)))) (
   sndN))))))))))))))))))))))))))))))))))⟩
theorem kX10_leastSet_22 : CallAt mX10_leastSet 22 0 mX10_priceOfSet 1 := ⟨by decide +kernel, ⟨_, (by decide +kernel : decode cX10_leastSet 22 = .ok (.invokevirtual 232, 3)), w_768, w_770, w_24⟩⟩
theorem kX10_leastSet_30 : CallAt mX10_leastSet 30 1 mJ6_bitCount_0f7a4 1 := ⟨by decide +kernel, ⟨_, (by decide +kernel : decode cX10_leastSet 30 = .ok (.invokestatic 192, 3)), w_755, w_617⟩⟩
theorem kX10_leastSet_54 : CallAt mX10_leastSet 54 0 mX2_fitting 1 := ⟨by decide +kernel, ⟨_, (by decide +kernel : decode cX10_leastSet 54 = .ok (.invokevirtual 186, 3)), w_727, w_728, w_729⟩⟩

set_option maxRecDepth 20000 in
theorem GX10_draw : Good mX10_draw := ⟨by decide +kernel, List.mem_of_getElem? (i := 936) (by decide +kernel), inX10, ⟨by decide +kernel, by decide +kernel⟩, by decide, show ∀ q ∈ tX10_draw, Snd mX10_draw q.1 q.2 from
  sndC (sd_iload_n (hi := rfl) (hd := (by decide +kernel : decode cX10_draw 0 = .ok (.iload_n 1, 1)))) (
   sndC (sd_istore_n (hi := rfl) (hd := (by decide +kernel : decode cX10_draw 1 = .ok (.istore_n 2, 1)))) (
   sndC (sd_iconst (hd := (by decide +kernel : decode cX10_draw 2 = .ok (.iconst 0, 1))) (hv := by decide)) (
   sndC (sd_istore_n (hi := rfl) (hd := (by decide +kernel : decode cX10_draw 3 = .ok (.istore_n 3, 1)))) (
   sndC (sd_iload_n (hi := rfl) (hd := (by decide +kernel : decode cX10_draw 4 = .ok (.iload_n 3, 1)))) (
   sndC (sd_bipush (hd := (by decide +kernel : decode cX10_draw 5 = .ok (.bipush 6, 2))) (hv := by decide)) (
   sndC (sd_cmp_ge (ht := by decide) (hd := (by decide +kernel : decode cX10_draw 7 = .ok (.if_icmp .ge 33, 3)))) (
   sndC (sd_iload_n (hi := rfl) (hd := (by decide +kernel : decode cX10_draw 10 = .ok (.iload_n 2, 1)))) (
   sndC (sd_ldcw (hw := w_937) (hd := (by decide +kernel : decode cX10_draw 11 = .ok (.ldc_w 378, 3)))) (
   sndC (sd_imul (hd := (by decide +kernel : decode cX10_draw 14 = .ok (.imul, 1)))) (
   sndC (sd_sipush (hd := (by decide +kernel : decode cX10_draw 15 = .ok (.sipush 12345, 3))) (hv := by decide)) (
   sndC (sd_iadd (hd := (by decide +kernel : decode cX10_draw 18 = .ok (.iadd, 1)))) (
   sndC (sd_istore_n (hi := rfl) (hd := (by decide +kernel : decode cX10_draw 19 = .ok (.istore_n 2, 1)))) (
   sndC (sd_aload_n (hi := rfl) (hd := (by decide +kernel : decode cX10_draw 20 = .ok (.aload_n 0, 1)))) (
   sndC (sd_get (C := RX10) (T := TX10) (N := 18) (hc := rfl) (hin0 := iX10) (hk := by decide) (hlink := w_512) (hd := (by decide +kernel : decode cX10_draw 21 = .ok (.getfield 13, 3)))) (
   sndC (sd_iload_n (hi := rfl) (hd := (by decide +kernel : decode cX10_draw 24 = .ok (.iload_n 3, 1)))) (
   sndC (sd_iload_n (hi := rfl) (hd := (by decide +kernel : decode cX10_draw 25 = .ok (.iload_n 2, 1)))) (
   sndC (sd_bipush (hd := (by decide +kernel : decode cX10_draw 26 = .ok (.bipush 9, 2))) (hv := by decide)) (
   sndC (sd_iushr (hd := (by decide +kernel : decode cX10_draw 28 = .ok (.iushr, 1)))) (
   sndC (sd_iconst (hd := (by decide +kernel : decode cX10_draw 29 = .ok (.iconst 4, 1))) (hv := by decide)) (
   sndC (sd_irem (hd := (by decide +kernel : decode cX10_draw 30 = .ok (.irem, 1)))) (
   sndC (sd_iinc (hv := by decide) (hd := (by decide +kernel : decode cX10_draw 34 = .ok (.iinc 3 1, 3)))) (
   sndC (sd_goto (ht := by decide) (hd := (by decide +kernel : decode cX10_draw 37 = .ok (.goto (-33), 3)))) (
   sndN)))))))))))))))))))))))⟩
theorem kX10_draw_31 : CallAt mX10_draw 31 1 mX5_put 3 := ⟨by decide +kernel, ⟨_, (by decide +kernel : decode cX10_draw 31 = .ok (.invokestatic 168, 3)), w_585, w_432⟩⟩

set_option maxRecDepth 20000 in
theorem GX10_commonDivisor : Good mX10_commonDivisor := ⟨by decide +kernel, List.mem_of_getElem? (i := 945) (by decide +kernel), inX10, ⟨by decide +kernel, by decide +kernel⟩, by decide, show ∀ q ∈ tX10_commonDivisor, Snd mX10_commonDivisor q.1 q.2 from
  sndC (sd_iload_n (hi := rfl) (hd := (by decide +kernel : decode cX10_commonDivisor 0 = .ok (.iload_n 0, 1)))) (
   sndC (sd_istore_n (hi := rfl) (hd := (by decide +kernel : decode cX10_commonDivisor 1 = .ok (.istore_n 2, 1)))) (
   sndC (sd_iload_n (hi := rfl) (hd := (by decide +kernel : decode cX10_commonDivisor 2 = .ok (.iload_n 1, 1)))) (
   sndC (sd_istore_n (hi := rfl) (hd := (by decide +kernel : decode cX10_commonDivisor 3 = .ok (.istore_n 3, 1)))) (
   sndC (sd_iconst (hd := (by decide +kernel : decode cX10_commonDivisor 4 = .ok (.iconst 0, 1))) (hv := by decide)) (
   sndC (sd_istore (hd := (by decide +kernel : decode cX10_commonDivisor 5 = .ok (.istore 4, 2)))) (
   sndC (sd_iload (hd := (by decide +kernel : decode cX10_commonDivisor 7 = .ok (.iload 4, 2)))) (
   sndC (sd_bipush (hd := (by decide +kernel : decode cX10_commonDivisor 9 = .ok (.bipush 100, 2))) (hv := by decide)) (
   sndC (sd_cmp_ge (ht := by decide) (hd := (by decide +kernel : decode cX10_commonDivisor 11 = .ok (.if_icmp .ge 23, 3)))) (
   sndC (sd_iload_n (hi := rfl) (hd := (by decide +kernel : decode cX10_commonDivisor 14 = .ok (.iload_n 3, 1)))) (
   sndC (sd_if_le (ht := by decide) (hd := (by decide +kernel : decode cX10_commonDivisor 15 = .ok (.ifCond .le 19, 3)))) (
   sndC (sd_iload_n (hi := rfl) (hd := (by decide +kernel : decode cX10_commonDivisor 18 = .ok (.iload_n 2, 1)))) (
   sndC (sd_iload_n (hi := rfl) (hd := (by decide +kernel : decode cX10_commonDivisor 19 = .ok (.iload_n 3, 1)))) (
   sndC (sd_irem (hd := (by decide +kernel : decode cX10_commonDivisor 20 = .ok (.irem, 1)))) (
   sndC (sd_istore (hd := (by decide +kernel : decode cX10_commonDivisor 21 = .ok (.istore 5, 2)))) (
   sndC (sd_iload_n (hi := rfl) (hd := (by decide +kernel : decode cX10_commonDivisor 23 = .ok (.iload_n 3, 1)))) (
   sndC (sd_istore_n (hi := rfl) (hd := (by decide +kernel : decode cX10_commonDivisor 24 = .ok (.istore_n 2, 1)))) (
   sndC (sd_iload (hd := (by decide +kernel : decode cX10_commonDivisor 25 = .ok (.iload 5, 2)))) (
   sndC (sd_istore_n (hi := rfl) (hd := (by decide +kernel : decode cX10_commonDivisor 27 = .ok (.istore_n 3, 1)))) (
   sndC (sd_iinc (hv := by decide) (hd := (by decide +kernel : decode cX10_commonDivisor 28 = .ok (.iinc 4 1, 3)))) (
   sndC (sd_goto (ht := by decide) (hd := (by decide +kernel : decode cX10_commonDivisor 31 = .ok (.goto (-24), 3)))) (
   sndC (sd_iload_n (hi := rfl) (hd := (by decide +kernel : decode cX10_commonDivisor 34 = .ok (.iload_n 2, 1)))) (
   sndN))))))))))))))))))))))⟩


set_option maxRecDepth 20000 in
theorem GX10_firstOther : Good mX10_firstOther := ⟨by decide +kernel, List.mem_of_getElem? (i := 884) (by decide +kernel), inX10, ⟨by decide +kernel, by decide +kernel⟩, by decide, show ∀ q ∈ tX10_firstOther, Snd mX10_firstOther q.1 q.2 from
  sndC (sd_aload_n (hi := rfl) (hd := (by decide +kernel : decode cX10_firstOther 0 = .ok (.aload_n 0, 1)))) (
   sndC (sd_get (C := RX10) (T := TX10) (N := 18) (hc := rfl) (hin0 := iX10) (hk := by decide) (hlink := w_518) (hd := (by decide +kernel : decode cX10_firstOther 1 = .ok (.getfield 47, 3)))) (
   sndC (sd_iload (hd := (by decide +kernel : decode cX10_firstOther 4 = .ok (.iload 4, 2)))) (
   sndC (sd_iload (hd := (by decide +kernel : decode cX10_firstOther 6 = .ok (.iload 5, 2)))) (
   sndC (sd_iconst (hd := (by decide +kernel : decode cX10_firstOther 11 = .ok (.iconst 0, 1))) (hv := by decide)) (
   sndC (sd_istore (hd := (by decide +kernel : decode cX10_firstOther 12 = .ok (.istore 6, 2)))) (
   sndC (sd_iload (hd := (by decide +kernel : decode cX10_firstOther 14 = .ok (.iload 6, 2)))) (
   sndC (sd_bipush (hd := (by decide +kernel : decode cX10_firstOther 16 = .ok (.bipush 6, 2))) (hv := by decide)) (
   sndC (sd_cmp_ge (ht := by decide) (hd := (by decide +kernel : decode cX10_firstOther 18 = .ok (.if_icmp .ge 38, 3)))) (
   sndC (sd_aload_n (hi := rfl) (hd := (by decide +kernel : decode cX10_firstOther 21 = .ok (.aload_n 0, 1)))) (
   sndC (sd_iload (hd := (by decide +kernel : decode cX10_firstOther 22 = .ok (.iload 6, 2)))) (
   sndC (sd_aload_n (hi := rfl) (hd := (by decide +kernel : decode cX10_firstOther 27 = .ok (.aload_n 2, 1)))) (
   sndC (sd_aload_n (hi := rfl) (hd := (by decide +kernel : decode cX10_firstOther 28 = .ok (.aload_n 0, 1)))) (
   sndC (sd_get (C := RX10) (T := TX10) (N := 18) (hc := rfl) (hin0 := iX10) (hk := by decide) (hlink := w_518) (hd := (by decide +kernel : decode cX10_firstOther 29 = .ok (.getfield 47, 3)))) (
   sndC (sd_iload_n (hi := rfl) (hd := (by decide +kernel : decode cX10_firstOther 32 = .ok (.iload_n 3, 1)))) (
   sndC (sd_iload (hd := (by decide +kernel : decode cX10_firstOther 33 = .ok (.iload 5, 2)))) (
   sndC (sd_aload_n (hi := rfl) (hd := (by decide +kernel : decode cX10_firstOther 38 = .ok (.aload_n 1, 1)))) (
   sndC (sd_iload (hd := (by decide +kernel : decode cX10_firstOther 39 = .ok (.iload 6, 2)))) (
   sndC (sd_cmp_eq (ht := by decide) (hd := (by decide +kernel : decode cX10_firstOther 44 = .ok (.if_icmp .eq 6, 3)))) (
   sndC (sd_iload (hd := (by decide +kernel : decode cX10_firstOther 47 = .ok (.iload 6, 2)))) (
   sndC (sd_iinc (hv := by decide) (hd := (by decide +kernel : decode cX10_firstOther 50 = .ok (.iinc 6 1, 3)))) (
   sndC (sd_goto (ht := by decide) (hd := (by decide +kernel : decode cX10_firstOther 53 = .ok (.goto (-39), 3)))) (
   sndC (sd_iconst (hd := (by decide +kernel : decode cX10_firstOther 56 = .ok (.iconst (-1), 1))) (hv := by decide)) (
   sndN)))))))))))))))))))))))⟩
theorem kX10_firstOther_8 : CallAt mX10_firstOther 8 0 mX3_ofWitness 2 := ⟨by decide +kernel, ⟨_, (by decide +kernel : decode cX10_firstOther 8 = .ok (.invokevirtual 335, 3)), w_612, w_613, w_614⟩⟩
theorem kX10_firstOther_24 : CallAt mX10_firstOther 24 0 mX10_nameStep 1 := ⟨by decide +kernel, ⟨_, (by decide +kernel : decode cX10_firstOther 24 = .ok (.invokevirtual 338, 3)), w_652, w_654, w_14⟩⟩
theorem kX10_firstOther_35 : CallAt mX10_firstOther 35 1 mX1_telling 4 := ⟨by decide +kernel, ⟨_, (by decide +kernel : decode cX10_firstOther 35 = .ok (.invokestatic 341, 3)), w_656, w_657⟩⟩
theorem kX10_firstOther_41 : CallAt mX10_firstOther 41 0 mX6_item 1 := ⟨by decide +kernel, ⟨_, (by decide +kernel : decode cX10_firstOther 41 = .ok (.invokevirtual 321, 3)), w_885, w_886, w_887⟩⟩

set_option maxRecDepth 20000 in
theorem GX10_livesTold : Good mX10_livesTold := ⟨by decide +kernel, List.mem_of_getElem? (i := 893) (by decide +kernel), inX10, ⟨by decide +kernel, by decide +kernel⟩, by decide, show ∀ q ∈ tX10_livesTold, Snd mX10_livesTold q.1 q.2 from
  sndC (sd_aload_n (hi := rfl) (hd := (by decide +kernel : decode cX10_livesTold 0 = .ok (.aload_n 2, 1)))) (
   sndC (sd_aload_n (hi := rfl) (hd := (by decide +kernel : decode cX10_livesTold 1 = .ok (.aload_n 0, 1)))) (
   sndC (sd_get (C := RX10) (T := TX10) (N := 18) (hc := rfl) (hin0 := iX10) (hk := by decide) (hlink := w_528) (hd := (by decide +kernel : decode cX10_livesTold 2 = .ok (.getfield 100, 3)))) (
   sndC (sd_aload_n (hi := rfl) (hd := (by decide +kernel : decode cX10_livesTold 5 = .ok (.aload_n 0, 1)))) (
   sndC (sd_get (C := RX10) (T := TX10) (N := 18) (hc := rfl) (hin0 := iX10) (hk := by decide) (hlink := w_527) (hd := (by decide +kernel : decode cX10_livesTold 6 = .ok (.getfield 176, 3)))) (
   sndC (sd_aload_n (hi := rfl) (hd := (by decide +kernel : decode cX10_livesTold 9 = .ok (.aload_n 0, 1)))) (
   sndC (sd_get (C := RX10) (T := TX10) (N := 18) (hc := rfl) (hin0 := iX10) (hk := by decide) (hlink := w_523) (hd := (by decide +kernel : decode cX10_livesTold 10 = .ok (.getfield 71, 3)))) (
   sndC (sd_aload_n (hi := rfl) (hd := (by decide +kernel : decode cX10_livesTold 13 = .ok (.aload_n 0, 1)))) (
   sndC (sd_get (C := RX10) (T := TX10) (N := 18) (hc := rfl) (hin0 := iX10) (hk := by decide) (hlink := w_518) (hd := (by decide +kernel : decode cX10_livesTold 14 = .ok (.getfield 47, 3)))) (
   sndC (sd_aload_n (hi := rfl) (hd := (by decide +kernel : decode cX10_livesTold 20 = .ok (.aload_n 0, 1)))) (
   sndC (sd_get (C := RX10) (T := TX10) (N := 18) (hc := rfl) (hin0 := iX10) (hk := by decide) (hlink := w_519) (hd := (by decide +kernel : decode cX10_livesTold 21 = .ok (.getfield 54, 3)))) (
   sndC (sd_iconst (hd := (by decide +kernel : decode cX10_livesTold 27 = .ok (.iconst 0, 1))) (hv := by decide)) (
   sndC (sd_istore_n (hi := rfl) (hd := (by decide +kernel : decode cX10_livesTold 28 = .ok (.istore_n 3, 1)))) (
   sndC (sd_iload_n (hi := rfl) (hd := (by decide +kernel : decode cX10_livesTold 29 = .ok (.iload_n 3, 1)))) (
   sndC (sd_bipush (hd := (by decide +kernel : decode cX10_livesTold 30 = .ok (.bipush 6, 2))) (hv := by decide)) (
   sndC (sd_cmp_ge (ht := by decide) (hd := (by decide +kernel : decode cX10_livesTold 32 = .ok (.if_icmp .ge 27, 3)))) (
   sndC (sd_aload_n (hi := rfl) (hd := (by decide +kernel : decode cX10_livesTold 35 = .ok (.aload_n 0, 1)))) (
   sndC (sd_get (C := RX10) (T := TX10) (N := 18) (hc := rfl) (hin0 := iX10) (hk := by decide) (hlink := w_519) (hd := (by decide +kernel : decode cX10_livesTold 36 = .ok (.getfield 54, 3)))) (
   sndC (sd_aload_n (hi := rfl) (hd := (by decide +kernel : decode cX10_livesTold 39 = .ok (.aload_n 2, 1)))) (
   sndC (sd_get (C := RX9) (T := TX9) (N := 10) (hc := rfl) (hin0 := iX9) (hk := by decide) (hlink := w_274) (hd := (by decide +kernel : decode cX10_livesTold 40 = .ok (.getfield 368, 3)))) (
   sndC (sd_iload_n (hi := rfl) (hd := (by decide +kernel : decode cX10_livesTold 43 = .ok (.iload_n 3, 1)))) (
   sndC (sd_aload_n (hi := rfl) (hd := (by decide +kernel : decode cX10_livesTold 44 = .ok (.aload_n 1, 1)))) (
   sndC (sd_iload_n (hi := rfl) (hd := (by decide +kernel : decode cX10_livesTold 45 = .ok (.iload_n 3, 1)))) (
   sndC (sd_iconst (hd := (by decide +kernel : decode cX10_livesTold 49 = .ok (.iconst 1, 1))) (hv := by decide)) (
   sndC (sd_iinc (hv := by decide) (hd := (by decide +kernel : decode cX10_livesTold 53 = .ok (.iinc 3 1, 3)))) (
   sndC (sd_goto (ht := by decide) (hd := (by decide +kernel : decode cX10_livesTold 56 = .ok (.goto (-27), 3)))) (
   sndC (sd_aload_n (hi := rfl) (hd := (by decide +kernel : decode cX10_livesTold 59 = .ok (.aload_n 0, 1)))) (
   sndC (sd_get (C := RX10) (T := TX10) (N := 18) (hc := rfl) (hin0 := iX10) (hk := by decide) (hlink := w_519) (hd := (by decide +kernel : decode cX10_livesTold 60 = .ok (.getfield 54, 3)))) (
   sndC (sd_iconst (hd := (by decide +kernel : decode cX10_livesTold 63 = .ok (.iconst 1, 1))) (hv := by decide)) (
   sndN)))))))))))))))))))))))))))))⟩
theorem kX10_livesTold_17 : CallAt mX10_livesTold 17 0 mX9_learn 4 := ⟨by decide +kernel, ⟨_, (by decide +kernel : decode cX10_livesTold 17 = .ok (.invokevirtual 364, 3)), w_694, w_695, w_696⟩⟩
theorem kX10_livesTold_24 : CallAt mX10_livesTold 24 0 mX2_forget 0 := ⟨by decide +kernel, ⟨_, (by decide +kernel : decode cX10_livesTold 24 = .ok (.invokevirtual 361, 3)), w_687, w_688, w_689⟩⟩
theorem kX10_livesTold_46 : CallAt mX10_livesTold 46 0 mX6_item 1 := ⟨by decide +kernel, ⟨_, (by decide +kernel : decode cX10_livesTold 46 = .ok (.invokevirtual 321, 3)), w_885, w_886, w_887⟩⟩
theorem kX10_livesTold_50 : CallAt mX10_livesTold 50 0 mX2_markStep 4 := ⟨by decide +kernel, ⟨_, (by decide +kernel : decode cX10_livesTold 50 = .ok (.invokevirtual 379, 3)), w_894, w_719, w_720⟩⟩
theorem kX10_livesTold_64 : CallAt mX10_livesTold 64 0 mX2_fitting 1 := ⟨by decide +kernel, ⟨_, (by decide +kernel : decode cX10_livesTold 64 = .ok (.invokevirtual 186, 3)), w_727, w_728, w_729⟩⟩

set_option maxRecDepth 20000 in
theorem GX10_kindsTelling : Good mX10_kindsTelling := ⟨by decide +kernel, List.mem_of_getElem? (i := 898) (by decide +kernel), inX10, ⟨by decide +kernel, by decide +kernel⟩, by decide, show ∀ q ∈ tX10_kindsTelling, Snd mX10_kindsTelling q.1 q.2 from
  sndC (sd_iconst (hd := (by decide +kernel : decode cX10_kindsTelling 0 = .ok (.iconst 0, 1))) (hv := by decide)) (
   sndC (sd_istore_n (hi := rfl) (hd := (by decide +kernel : decode cX10_kindsTelling 1 = .ok (.istore_n 3, 1)))) (
   sndC (sd_iconst (hd := (by decide +kernel : decode cX10_kindsTelling 2 = .ok (.iconst 0, 1))) (hv := by decide)) (
   sndC (sd_istore (hd := (by decide +kernel : decode cX10_kindsTelling 3 = .ok (.istore 4, 2)))) (
   sndC (sd_iload (hd := (by decide +kernel : decode cX10_kindsTelling 5 = .ok (.iload 4, 2)))) (
   sndC (sd_iconst (hd := (by decide +kernel : decode cX10_kindsTelling 7 = .ok (.iconst 5, 1))) (hv := by decide)) (
   sndC (sd_cmp_gt (ht := by decide) (hd := (by decide +kernel : decode cX10_kindsTelling 8 = .ok (.if_icmp .gt 39, 3)))) (
   sndC (sd_aload_n (hi := rfl) (hd := (by decide +kernel : decode cX10_kindsTelling 11 = .ok (.aload_n 0, 1)))) (
   sndC (sd_aload_n (hi := rfl) (hd := (by decide +kernel : decode cX10_kindsTelling 12 = .ok (.aload_n 1, 1)))) (
   sndC (sd_aload_n (hi := rfl) (hd := (by decide +kernel : decode cX10_kindsTelling 13 = .ok (.aload_n 0, 1)))) (
   sndC (sd_get (C := RX10) (T := TX10) (N := 18) (hc := rfl) (hin0 := iX10) (hk := by decide) (hlink := w_528) (hd := (by decide +kernel : decode cX10_kindsTelling 14 = .ok (.getfield 100, 3)))) (
   sndC (sd_iload (hd := (by decide +kernel : decode cX10_kindsTelling 17 = .ok (.iload 4, 2)))) (
   sndC (sd_aload_n (hi := rfl) (hd := (by decide +kernel : decode cX10_kindsTelling 19 = .ok (.aload_n 2, 1)))) (
   sndC (sd_get (C := RX9) (T := TX9) (N := 10) (hc := rfl) (hin0 := iX9) (hk := by decide) (hlink := w_279) (hd := (by decide +kernel : decode cX10_kindsTelling 20 = .ok (.getfield 145, 3)))) (
   sndC (sd_aload_n (hi := rfl) (hd := (by decide +kernel : decode cX10_kindsTelling 23 = .ok (.aload_n 2, 1)))) (
   sndC (sd_get (C := RX9) (T := TX9) (N := 10) (hc := rfl) (hin0 := iX9) (hk := by decide) (hlink := w_282) (hd := (by decide +kernel : decode cX10_kindsTelling 24 = .ok (.getfield 148, 3)))) (
   sndC (sd_iconst (hd := (by decide +kernel : decode cX10_kindsTelling 30 = .ok (.iconst (-1), 1))) (hv := by decide)) (
   sndC (sd_cmp_ne (ht := by decide) (hd := (by decide +kernel : decode cX10_kindsTelling 31 = .ok (.if_icmp .ne 10, 3)))) (
   sndC (sd_iload_n (hi := rfl) (hd := (by decide +kernel : decode cX10_kindsTelling 34 = .ok (.iload_n 3, 1)))) (
   sndC (sd_iconst (hd := (by decide +kernel : decode cX10_kindsTelling 35 = .ok (.iconst 1, 1))) (hv := by decide)) (
   sndC (sd_iload (hd := (by decide +kernel : decode cX10_kindsTelling 36 = .ok (.iload 4, 2)))) (
   sndC (sd_ishl (hd := (by decide +kernel : decode cX10_kindsTelling 38 = .ok (.ishl, 1)))) (
   sndC (sd_ior (hd := (by decide +kernel : decode cX10_kindsTelling 39 = .ok (.ior, 1)))) (
   sndC (sd_istore_n (hi := rfl) (hd := (by decide +kernel : decode cX10_kindsTelling 40 = .ok (.istore_n 3, 1)))) (
   sndC (sd_iinc (hv := by decide) (hd := (by decide +kernel : decode cX10_kindsTelling 41 = .ok (.iinc 4 1, 3)))) (
   sndC (sd_goto (ht := by decide) (hd := (by decide +kernel : decode cX10_kindsTelling 44 = .ok (.goto (-39), 3)))) (
   sndC (sd_iload_n (hi := rfl) (hd := (by decide +kernel : decode cX10_kindsTelling 47 = .ok (.iload_n 3, 1)))) (
   sndN)))))))))))))))))))))))))))⟩
theorem kX10_kindsTelling_27 : CallAt mX10_kindsTelling 27 0 mX10_firstOther 5 := ⟨by decide +kernel, ⟨_, (by decide +kernel : decode cX10_kindsTelling 27 = .ok (.invokevirtual 249, 3)), w_881, w_883, w_38⟩⟩

set_option maxRecDepth 20000 in
theorem GX10_numbersTelling : Good mX10_numbersTelling := ⟨by decide +kernel, List.mem_of_getElem? (i := 902) (by decide +kernel), inX10, ⟨by decide +kernel, by decide +kernel⟩, by decide, show ∀ q ∈ tX10_numbersTelling, Snd mX10_numbersTelling q.1 q.2 from
  sndC (sd_iconst (hd := (by decide +kernel : decode cX10_numbersTelling 0 = .ok (.iconst 0, 1))) (hv := by decide)) (
   sndC (sd_istore_n (hi := rfl) (hd := (by decide +kernel : decode cX10_numbersTelling 1 = .ok (.istore_n 3, 1)))) (
   sndC (sd_iconst (hd := (by decide +kernel : decode cX10_numbersTelling 2 = .ok (.iconst 0, 1))) (hv := by decide)) (
   sndC (sd_istore (hd := (by decide +kernel : decode cX10_numbersTelling 3 = .ok (.istore 4, 2)))) (
   sndC (sd_iload (hd := (by decide +kernel : decode cX10_numbersTelling 5 = .ok (.iload 4, 2)))) (
   sndC (sd_bipush (hd := (by decide +kernel : decode cX10_numbersTelling 7 = .ok (.bipush 9, 2))) (hv := by decide)) (
   sndC (sd_cmp_gt (ht := by decide) (hd := (by decide +kernel : decode cX10_numbersTelling 9 = .ok (.if_icmp .gt 39, 3)))) (
   sndC (sd_aload_n (hi := rfl) (hd := (by decide +kernel : decode cX10_numbersTelling 12 = .ok (.aload_n 0, 1)))) (
   sndC (sd_aload_n (hi := rfl) (hd := (by decide +kernel : decode cX10_numbersTelling 13 = .ok (.aload_n 1, 1)))) (
   sndC (sd_aload_n (hi := rfl) (hd := (by decide +kernel : decode cX10_numbersTelling 14 = .ok (.aload_n 0, 1)))) (
   sndC (sd_get (C := RX10) (T := TX10) (N := 18) (hc := rfl) (hin0 := iX10) (hk := by decide) (hlink := w_528) (hd := (by decide +kernel : decode cX10_numbersTelling 15 = .ok (.getfield 100, 3)))) (
   sndC (sd_aload_n (hi := rfl) (hd := (by decide +kernel : decode cX10_numbersTelling 18 = .ok (.aload_n 2, 1)))) (
   sndC (sd_get (C := RX9) (T := TX9) (N := 10) (hc := rfl) (hin0 := iX9) (hk := by decide) (hlink := w_276) (hd := (by decide +kernel : decode cX10_numbersTelling 19 = .ok (.getfield 154, 3)))) (
   sndC (sd_iload (hd := (by decide +kernel : decode cX10_numbersTelling 22 = .ok (.iload 4, 2)))) (
   sndC (sd_aload_n (hi := rfl) (hd := (by decide +kernel : decode cX10_numbersTelling 24 = .ok (.aload_n 2, 1)))) (
   sndC (sd_get (C := RX9) (T := TX9) (N := 10) (hc := rfl) (hin0 := iX9) (hk := by decide) (hlink := w_282) (hd := (by decide +kernel : decode cX10_numbersTelling 25 = .ok (.getfield 148, 3)))) (
   sndC (sd_iconst (hd := (by decide +kernel : decode cX10_numbersTelling 31 = .ok (.iconst (-1), 1))) (hv := by decide)) (
   sndC (sd_cmp_ne (ht := by decide) (hd := (by decide +kernel : decode cX10_numbersTelling 32 = .ok (.if_icmp .ne 10, 3)))) (
   sndC (sd_iload_n (hi := rfl) (hd := (by decide +kernel : decode cX10_numbersTelling 35 = .ok (.iload_n 3, 1)))) (
   sndC (sd_iconst (hd := (by decide +kernel : decode cX10_numbersTelling 36 = .ok (.iconst 1, 1))) (hv := by decide)) (
   sndC (sd_iload (hd := (by decide +kernel : decode cX10_numbersTelling 37 = .ok (.iload 4, 2)))) (
   sndC (sd_ishl (hd := (by decide +kernel : decode cX10_numbersTelling 39 = .ok (.ishl, 1)))) (
   sndC (sd_ior (hd := (by decide +kernel : decode cX10_numbersTelling 40 = .ok (.ior, 1)))) (
   sndC (sd_istore_n (hi := rfl) (hd := (by decide +kernel : decode cX10_numbersTelling 41 = .ok (.istore_n 3, 1)))) (
   sndC (sd_iinc (hv := by decide) (hd := (by decide +kernel : decode cX10_numbersTelling 42 = .ok (.iinc 4 1, 3)))) (
   sndC (sd_goto (ht := by decide) (hd := (by decide +kernel : decode cX10_numbersTelling 45 = .ok (.goto (-40), 3)))) (
   sndC (sd_iload_n (hi := rfl) (hd := (by decide +kernel : decode cX10_numbersTelling 48 = .ok (.iload_n 3, 1)))) (
   sndN)))))))))))))))))))))))))))⟩
theorem kX10_numbersTelling_28 : CallAt mX10_numbersTelling 28 0 mX10_firstOther 5 := ⟨by decide +kernel, ⟨_, (by decide +kernel : decode cX10_numbersTelling 28 = .ok (.invokevirtual 249, 3)), w_881, w_883, w_38⟩⟩

set_option maxRecDepth 20000 in
theorem GX10_sawTelling : Good mX10_sawTelling := ⟨by decide +kernel, List.mem_of_getElem? (i := 906) (by decide +kernel), inX10, ⟨by decide +kernel, by decide +kernel⟩, by decide, show ∀ q ∈ tX10_sawTelling, Snd mX10_sawTelling q.1 q.2 from
  sndC (sd_iconst (hd := (by decide +kernel : decode cX10_sawTelling 0 = .ok (.iconst 0, 1))) (hv := by decide)) (
   sndC (sd_istore_n (hi := rfl) (hd := (by decide +kernel : decode cX10_sawTelling 1 = .ok (.istore_n 3, 1)))) (
   sndC (sd_iconst (hd := (by decide +kernel : decode cX10_sawTelling 2 = .ok (.iconst 0, 1))) (hv := by decide)) (
   sndC (sd_istore (hd := (by decide +kernel : decode cX10_sawTelling 3 = .ok (.istore 4, 2)))) (
   sndC (sd_iload (hd := (by decide +kernel : decode cX10_sawTelling 5 = .ok (.iload 4, 2)))) (
   sndC (sd_bipush (hd := (by decide +kernel : decode cX10_sawTelling 7 = .ok (.bipush 63, 2))) (hv := by decide)) (
   sndC (sd_cmp_gt (ht := by decide) (hd := (by decide +kernel : decode cX10_sawTelling 9 = .ok (.if_icmp .gt 35, 3)))) (
   sndC (sd_aload_n (hi := rfl) (hd := (by decide +kernel : decode cX10_sawTelling 12 = .ok (.aload_n 0, 1)))) (
   sndC (sd_aload_n (hi := rfl) (hd := (by decide +kernel : decode cX10_sawTelling 13 = .ok (.aload_n 1, 1)))) (
   sndC (sd_aload_n (hi := rfl) (hd := (by decide +kernel : decode cX10_sawTelling 14 = .ok (.aload_n 0, 1)))) (
   sndC (sd_get (C := RX10) (T := TX10) (N := 18) (hc := rfl) (hin0 := iX10) (hk := by decide) (hlink := w_528) (hd := (by decide +kernel : decode cX10_sawTelling 15 = .ok (.getfield 100, 3)))) (
   sndC (sd_aload_n (hi := rfl) (hd := (by decide +kernel : decode cX10_sawTelling 18 = .ok (.aload_n 2, 1)))) (
   sndC (sd_get (C := RX9) (T := TX9) (N := 10) (hc := rfl) (hin0 := iX9) (hk := by decide) (hlink := w_276) (hd := (by decide +kernel : decode cX10_sawTelling 19 = .ok (.getfield 154, 3)))) (
   sndC (sd_aload_n (hi := rfl) (hd := (by decide +kernel : decode cX10_sawTelling 22 = .ok (.aload_n 2, 1)))) (
   sndC (sd_get (C := RX9) (T := TX9) (N := 10) (hc := rfl) (hin0 := iX9) (hk := by decide) (hlink := w_279) (hd := (by decide +kernel : decode cX10_sawTelling 23 = .ok (.getfield 145, 3)))) (
   sndC (sd_iload (hd := (by decide +kernel : decode cX10_sawTelling 26 = .ok (.iload 4, 2)))) (
   sndC (sd_iconst (hd := (by decide +kernel : decode cX10_sawTelling 31 = .ok (.iconst (-1), 1))) (hv := by decide)) (
   sndC (sd_cmp_ne (ht := by decide) (hd := (by decide +kernel : decode cX10_sawTelling 32 = .ok (.if_icmp .ne 6, 3)))) (
   sndC (sd_iinc (hv := by decide) (hd := (by decide +kernel : decode cX10_sawTelling 35 = .ok (.iinc 3 1, 3)))) (
   sndC (sd_iinc (hv := by decide) (hd := (by decide +kernel : decode cX10_sawTelling 38 = .ok (.iinc 4 1, 3)))) (
   sndC (sd_goto (ht := by decide) (hd := (by decide +kernel : decode cX10_sawTelling 41 = .ok (.goto (-36), 3)))) (
   sndC (sd_iload_n (hi := rfl) (hd := (by decide +kernel : decode cX10_sawTelling 44 = .ok (.iload_n 3, 1)))) (
   sndN))))))))))))))))))))))⟩
theorem kX10_sawTelling_28 : CallAt mX10_sawTelling 28 0 mX10_firstOther 5 := ⟨by decide +kernel, ⟨_, (by decide +kernel : decode cX10_sawTelling 28 = .ok (.invokevirtual 249, 3)), w_881, w_883, w_38⟩⟩

set_option maxRecDepth 20000 in
theorem GX10_leastSawTelling : Good mX10_leastSawTelling := ⟨by decide +kernel, List.mem_of_getElem? (i := 910) (by decide +kernel), inX10, ⟨by decide +kernel, by decide +kernel⟩, by decide, show ∀ q ∈ tX10_leastSawTelling, Snd mX10_leastSawTelling q.1 q.2 from
  sndC (sd_iconst (hd := (by decide +kernel : decode cX10_leastSawTelling 0 = .ok (.iconst 0, 1))) (hv := by decide)) (
   sndC (sd_istore_n (hi := rfl) (hd := (by decide +kernel : decode cX10_leastSawTelling 1 = .ok (.istore_n 3, 1)))) (
   sndC (sd_iload_n (hi := rfl) (hd := (by decide +kernel : decode cX10_leastSawTelling 2 = .ok (.iload_n 3, 1)))) (
   sndC (sd_bipush (hd := (by decide +kernel : decode cX10_leastSawTelling 3 = .ok (.bipush 63, 2))) (hv := by decide)) (
   sndC (sd_cmp_gt (ht := by decide) (hd := (by decide +kernel : decode cX10_leastSawTelling 5 = .ok (.if_icmp .gt 33, 3)))) (
   sndC (sd_aload_n (hi := rfl) (hd := (by decide +kernel : decode cX10_leastSawTelling 8 = .ok (.aload_n 0, 1)))) (
   sndC (sd_aload_n (hi := rfl) (hd := (by decide +kernel : decode cX10_leastSawTelling 9 = .ok (.aload_n 1, 1)))) (
   sndC (sd_aload_n (hi := rfl) (hd := (by decide +kernel : decode cX10_leastSawTelling 10 = .ok (.aload_n 0, 1)))) (
   sndC (sd_get (C := RX10) (T := TX10) (N := 18) (hc := rfl) (hin0 := iX10) (hk := by decide) (hlink := w_528) (hd := (by decide +kernel : decode cX10_leastSawTelling 11 = .ok (.getfield 100, 3)))) (
   sndC (sd_aload_n (hi := rfl) (hd := (by decide +kernel : decode cX10_leastSawTelling 14 = .ok (.aload_n 2, 1)))) (
   sndC (sd_get (C := RX9) (T := TX9) (N := 10) (hc := rfl) (hin0 := iX9) (hk := by decide) (hlink := w_276) (hd := (by decide +kernel : decode cX10_leastSawTelling 15 = .ok (.getfield 154, 3)))) (
   sndC (sd_aload_n (hi := rfl) (hd := (by decide +kernel : decode cX10_leastSawTelling 18 = .ok (.aload_n 2, 1)))) (
   sndC (sd_get (C := RX9) (T := TX9) (N := 10) (hc := rfl) (hin0 := iX9) (hk := by decide) (hlink := w_279) (hd := (by decide +kernel : decode cX10_leastSawTelling 19 = .ok (.getfield 145, 3)))) (
   sndC (sd_iload_n (hi := rfl) (hd := (by decide +kernel : decode cX10_leastSawTelling 22 = .ok (.iload_n 3, 1)))) (
   sndC (sd_iconst (hd := (by decide +kernel : decode cX10_leastSawTelling 26 = .ok (.iconst (-1), 1))) (hv := by decide)) (
   sndC (sd_cmp_ne (ht := by decide) (hd := (by decide +kernel : decode cX10_leastSawTelling 27 = .ok (.if_icmp .ne 5, 3)))) (
   sndC (sd_iload_n (hi := rfl) (hd := (by decide +kernel : decode cX10_leastSawTelling 30 = .ok (.iload_n 3, 1)))) (
   sndC (sd_iinc (hv := by decide) (hd := (by decide +kernel : decode cX10_leastSawTelling 32 = .ok (.iinc 3 1, 3)))) (
   sndC (sd_goto (ht := by decide) (hd := (by decide +kernel : decode cX10_leastSawTelling 35 = .ok (.goto (-33), 3)))) (
   sndC (sd_iconst (hd := (by decide +kernel : decode cX10_leastSawTelling 38 = .ok (.iconst (-1), 1))) (hv := by decide)) (
   sndN))))))))))))))))))))⟩
theorem kX10_leastSawTelling_23 : CallAt mX10_leastSawTelling 23 0 mX10_firstOther 5 := ⟨by decide +kernel, ⟨_, (by decide +kernel : decode cX10_leastSawTelling 23 = .ok (.invokevirtual 249, 3)), w_881, w_883, w_38⟩⟩

set_option maxRecDepth 20000 in
theorem GX10_textsTelling : Good mX10_textsTelling := ⟨by decide +kernel, List.mem_of_getElem? (i := 914) (by decide +kernel), inX10, ⟨by decide +kernel, by decide +kernel⟩, by decide, show ∀ q ∈ tX10_textsTelling, Snd mX10_textsTelling q.1 q.2 from
  sndC (sd_iconst (hd := (by decide +kernel : decode cX10_textsTelling 0 = .ok (.iconst 0, 1))) (hv := by decide)) (
   sndC (sd_istore_n (hi := rfl) (hd := (by decide +kernel : decode cX10_textsTelling 1 = .ok (.istore_n 3, 1)))) (
   sndC (sd_iconst (hd := (by decide +kernel : decode cX10_textsTelling 2 = .ok (.iconst 0, 1))) (hv := by decide)) (
   sndC (sd_istore (hd := (by decide +kernel : decode cX10_textsTelling 3 = .ok (.istore 4, 2)))) (
   sndC (sd_iload (hd := (by decide +kernel : decode cX10_textsTelling 5 = .ok (.iload 4, 2)))) (
   sndC (sd_aload_n (hi := rfl) (hd := (by decide +kernel : decode cX10_textsTelling 7 = .ok (.aload_n 0, 1)))) (
   sndC (sd_get (C := RX10) (T := TX10) (N := 18) (hc := rfl) (hin0 := iX10) (hk := by decide) (hlink := w_525) (hd := (by decide +kernel : decode cX10_textsTelling 8 = .ok (.getfield 75, 3)))) (
   sndC (sd_cmp_ge (ht := by decide) (hd := (by decide +kernel : decode cX10_textsTelling 11 = .ok (.if_icmp .ge 52, 3)))) (
   sndC (sd_aload_n (hi := rfl) (hd := (by decide +kernel : decode cX10_textsTelling 14 = .ok (.aload_n 0, 1)))) (
   sndC (sd_iload (hd := (by decide +kernel : decode cX10_textsTelling 15 = .ok (.iload 4, 2)))) (
   sndC (sd_astore (hd := (by decide +kernel : decode cX10_textsTelling 20 = .ok (.astore 5, 2)))) (
   sndC (sd_aload (hd := (by decide +kernel : decode cX10_textsTelling 22 = .ok (.aload 5, 2)))) (
   sndC (sd_ifnull (ht := by decide) (hd := (by decide +kernel : decode cX10_textsTelling 24 = .ok (.ifnull 33, 3)))) (
   sndC (sd_aload_n (hi := rfl) (hd := (by decide +kernel : decode cX10_textsTelling 27 = .ok (.aload_n 0, 1)))) (
   sndC (sd_aload_n (hi := rfl) (hd := (by decide +kernel : decode cX10_textsTelling 28 = .ok (.aload_n 1, 1)))) (
   sndC (sd_aload (hd := (by decide +kernel : decode cX10_textsTelling 29 = .ok (.aload 5, 2)))) (
   sndC (sd_aload_n (hi := rfl) (hd := (by decide +kernel : decode cX10_textsTelling 31 = .ok (.aload_n 2, 1)))) (
   sndC (sd_get (C := RX9) (T := TX9) (N := 10) (hc := rfl) (hin0 := iX9) (hk := by decide) (hlink := w_276) (hd := (by decide +kernel : decode cX10_textsTelling 32 = .ok (.getfield 154, 3)))) (
   sndC (sd_aload_n (hi := rfl) (hd := (by decide +kernel : decode cX10_textsTelling 35 = .ok (.aload_n 2, 1)))) (
   sndC (sd_get (C := RX9) (T := TX9) (N := 10) (hc := rfl) (hin0 := iX9) (hk := by decide) (hlink := w_279) (hd := (by decide +kernel : decode cX10_textsTelling 36 = .ok (.getfield 145, 3)))) (
   sndC (sd_aload_n (hi := rfl) (hd := (by decide +kernel : decode cX10_textsTelling 39 = .ok (.aload_n 2, 1)))) (
   sndC (sd_get (C := RX9) (T := TX9) (N := 10) (hc := rfl) (hin0 := iX9) (hk := by decide) (hlink := w_282) (hd := (by decide +kernel : decode cX10_textsTelling 40 = .ok (.getfield 148, 3)))) (
   sndC (sd_iconst (hd := (by decide +kernel : decode cX10_textsTelling 46 = .ok (.iconst (-1), 1))) (hv := by decide)) (
   sndC (sd_cmp_ne (ht := by decide) (hd := (by decide +kernel : decode cX10_textsTelling 47 = .ok (.if_icmp .ne 10, 3)))) (
   sndC (sd_iload_n (hi := rfl) (hd := (by decide +kernel : decode cX10_textsTelling 50 = .ok (.iload_n 3, 1)))) (
   sndC (sd_iconst (hd := (by decide +kernel : decode cX10_textsTelling 51 = .ok (.iconst 1, 1))) (hv := by decide)) (
   sndC (sd_iload (hd := (by decide +kernel : decode cX10_textsTelling 52 = .ok (.iload 4, 2)))) (
   sndC (sd_ishl (hd := (by decide +kernel : decode cX10_textsTelling 54 = .ok (.ishl, 1)))) (
   sndC (sd_ior (hd := (by decide +kernel : decode cX10_textsTelling 55 = .ok (.ior, 1)))) (
   sndC (sd_istore_n (hi := rfl) (hd := (by decide +kernel : decode cX10_textsTelling 56 = .ok (.istore_n 3, 1)))) (
   sndC (sd_iinc (hv := by decide) (hd := (by decide +kernel : decode cX10_textsTelling 57 = .ok (.iinc 4 1, 3)))) (
   sndC (sd_goto (ht := by decide) (hd := (by decide +kernel : decode cX10_textsTelling 60 = .ok (.goto (-55), 3)))) (
   sndC (sd_iload_n (hi := rfl) (hd := (by decide +kernel : decode cX10_textsTelling 63 = .ok (.iload_n 3, 1)))) (
   sndN)))))))))))))))))))))))))))))))))⟩
theorem kX10_textsTelling_17 : CallAt mX10_textsTelling 17 0 mX10_textAt 1 := ⟨by decide +kernel, ⟨_, (by decide +kernel : decode cX10_textsTelling 17 = .ok (.invokevirtual 172, 3)), w_675, w_677, w_15⟩⟩
theorem kX10_textsTelling_43 : CallAt mX10_textsTelling 43 0 mX10_firstOther 5 := ⟨by decide +kernel, ⟨_, (by decide +kernel : decode cX10_textsTelling 43 = .ok (.invokevirtual 249, 3)), w_881, w_883, w_38⟩⟩
