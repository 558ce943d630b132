/-! ===== printed by program: words, tables of the methods, call sites ===== -/
set_option maxRecDepth 20000 in
theorem GX11_in : Good mX11_in := ⟨by decide +kernel, List.mem_of_getElem? (i := 1146) (by decide +kernel), inX11, ⟨by decide +kernel, by decide +kernel⟩, by decide, show ∀ q ∈ tX11_in, Snd mX11_in q.1 q.2 from
  sndC (sd_lload_n (hi := rfl) (hd := (by decide +kernel : decode cX11_in 0 = .ok (.lload_n 0, 1)))) (
   sndC (sd_lload_n (hi := rfl) (hd := (by decide +kernel : decode cX11_in 1 = .ok (.lload_n 2, 1)))) (
   sndC (sd_lcmp (hd := (by decide +kernel : decode cX11_in 2 = .ok (.lcmp, 1)))) (
   sndC (sd_if_lt (ht := by decide) (hd := (by decide +kernel : decode cX11_in 3 = .ok (.ifCond .lt 14, 3)))) (
   sndC (sd_lload_n (hi := rfl) (hd := (by decide +kernel : decode cX11_in 6 = .ok (.lload_n 0, 1)))) (
   sndC (sd_lload (hd := (by decide +kernel : decode cX11_in 7 = .ok (.lload 4, 2)))) (
   sndC (sd_lcmp (hd := (by decide +kernel : decode cX11_in 9 = .ok (.lcmp, 1)))) (
   sndC (sd_if_gt (ht := by decide) (hd := (by decide +kernel : decode cX11_in 10 = .ok (.ifCond .gt 7, 3)))) (
   sndC (sd_iconst (hd := (by decide +kernel : decode cX11_in 13 = .ok (.iconst 1, 1))) (hv := by decide)) (
   sndC (sd_goto (ht := by decide) (hd := (by decide +kernel : decode cX11_in 14 = .ok (.goto 4, 3)))) (
   sndC (sd_iconst (hd := (by decide +kernel : decode cX11_in 17 = .ok (.iconst 0, 1))) (hv := by decide)) (
   sndN)))))))))))⟩


set_option maxRecDepth 20000 in
theorem GX11_within : Good mX11_within := ⟨by decide +kernel, List.mem_of_getElem? (i := 1376) (by decide +kernel), inX11, ⟨by decide +kernel, by decide +kernel⟩, by decide, show ∀ q ∈ tX11_within, Snd mX11_within q.1 q.2 from
  sndC (sd_iload_n (hi := rfl) (hd := (by decide +kernel : decode cX11_within 0 = .ok (.iload_n 0, 1)))) (
   sndC (sd_iload_n (hi := rfl) (hd := (by decide +kernel : decode cX11_within 1 = .ok (.iload_n 1, 1)))) (
   sndC (sd_cmp_ge (ht := by decide) (hd := (by decide +kernel : decode cX11_within 2 = .ok (.if_icmp .ge 7, 3)))) (
   sndC (sd_iload_n (hi := rfl) (hd := (by decide +kernel : decode cX11_within 5 = .ok (.iload_n 1, 1)))) (
   sndC (sd_goto (ht := by decide) (hd := (by decide +kernel : decode cX11_within 6 = .ok (.goto 13, 3)))) (
   sndC (sd_iload_n (hi := rfl) (hd := (by decide +kernel : decode cX11_within 9 = .ok (.iload_n 0, 1)))) (
   sndC (sd_iload_n (hi := rfl) (hd := (by decide +kernel : decode cX11_within 10 = .ok (.iload_n 2, 1)))) (
   sndC (sd_cmp_le (ht := by decide) (hd := (by decide +kernel : decode cX11_within 11 = .ok (.if_icmp .le 7, 3)))) (
   sndC (sd_iload_n (hi := rfl) (hd := (by decide +kernel : decode cX11_within 14 = .ok (.iload_n 2, 1)))) (
   sndC (sd_goto (ht := by decide) (hd := (by decide +kernel : decode cX11_within 15 = .ok (.goto 4, 3)))) (
   sndC (sd_iload_n (hi := rfl) (hd := (by decide +kernel : decode cX11_within 18 = .ok (.iload_n 0, 1)))) (
   sndN)))))))))))⟩


set_option maxRecDepth 20000 in
theorem GX11_init : Good mX11_init := ⟨by decide +kernel, List.mem_of_getElem? (i := 1009) (by decide +kernel), inX11, ⟨by decide +kernel, by decide +kernel⟩, by decide, show ∀ q ∈ tX11_init, Snd mX11_init q.1 q.2 from
  sndC (sd_aload_n (hi := rfl) (hd := (by decide +kernel : decode cX11_init 0 = .ok (.aload_n 0, 1)))) (
   sndC (sd_objInit (hl := w_1010) (hi0 := w_145) (hc0 := w_146) (hd := (by decide +kernel : decode cX11_init 1 = .ok (.invokespecial 7, 3)))) (
   sndC (sd_aload_n (hi := rfl) (hd := (by decide +kernel : decode cX11_init 4 = .ok (.aload_n 0, 1)))) (
   sndC (sd_sipush (hd := (by decide +kernel : decode cX11_init 5 = .ok (.sipush 960, 3))) (hv := by decide)) (
   sndC (sd_newI (hw0 := w_178) (hd := (by decide +kernel : decode cX11_init 8 = .ok (.newarray .int, 2)))) (
   sndC (sd_putAF (C := RX11) (T := TX11) (N := 41) (hc := rfl) (hin0 := iX11) (hk := by decide) (hlink := w_1015) (ty0 := tyX11) (hty := tyX11_ok) (hnm := nmX11) (hfin := rfl) (hi2 := rfl) (hdecl := rfl) (hi := .inr ⟨_, rfl⟩) (hd := (by decide +kernel : decode cX11_init 10 = .ok (.putfield 13, 3)))) (
   sndC (sd_aload_n (hi := rfl) (hd := (by decide +kernel : decode cX11_init 13 = .ok (.aload_n 0, 1)))) (
   sndC (sd_bipush (hd := (by decide +kernel : decode cX11_init 14 = .ok (.bipush 6, 2))) (hv := by decide)) (
   sndC (sd_newI (hw0 := w_178) (hd := (by decide +kernel : decode cX11_init 16 = .ok (.newarray .int, 2)))) (
   sndC (sd_putAF (C := RX11) (T := TX11) (N := 41) (hc := rfl) (hin0 := iX11) (hk := by decide) (hlink := w_1016) (ty0 := tyX11) (hty := tyX11_ok) (hnm := nmX11) (hfin := rfl) (hi2 := rfl) (hdecl := rfl) (hi := .inr ⟨_, rfl⟩) (hd := (by decide +kernel : decode cX11_init 18 = .ok (.putfield 17, 3)))) (
   sndC (sd_aload_n (hi := rfl) (hd := (by decide +kernel : decode cX11_init 21 = .ok (.aload_n 0, 1)))) (
   sndC (sd_sipush (hd := (by decide +kernel : decode cX11_init 22 = .ok (.sipush 160, 3))) (hv := by decide)) (
   sndC (sd_newI (hw0 := w_178) (hd := (by decide +kernel : decode cX11_init 25 = .ok (.newarray .int, 2)))) (
   sndC (sd_putAF (C := RX11) (T := TX11) (N := 41) (hc := rfl) (hin0 := iX11) (hk := by decide) (hlink := w_1019) (ty0 := tyX11) (hty := tyX11_ok) (hnm := nmX11) (hfin := rfl) (hi2 := rfl) (hdecl := rfl) (hi := .inr ⟨_, rfl⟩) (hd := (by decide +kernel : decode cX11_init 27 = .ok (.putfield 20, 3)))) (
   sndC (sd_aload_n (hi := rfl) (hd := (by decide +kernel : decode cX11_init 30 = .ok (.aload_n 0, 1)))) (
   sndC (sd_bipush (hd := (by decide +kernel : decode cX11_init 31 = .ok (.bipush 30, 2))) (hv := by decide)) (
   sndC (sd_putI (C := RX11) (T := TX11) (N := 41) (hc := rfl) (hin0 := iX11) (hk := by decide) (hlink := w_1021) (ty0 := tyX11) (hty := tyX11_ok) (hnm := nmX11) (hfin := rfl) (hi := rfl) (hd := (by decide +kernel : decode cX11_init 33 = .ok (.putfield 23, 3)))) (
   sndC (sd_aload_n (hi := rfl) (hd := (by decide +kernel : decode cX11_init 36 = .ok (.aload_n 0, 1)))) (
   sndC (sd_bipush (hd := (by decide +kernel : decode cX11_init 37 = .ok (.bipush 6, 2))) (hv := by decide)) (
   sndC (sd_newI (hw0 := w_178) (hd := (by decide +kernel : decode cX11_init 39 = .ok (.newarray .int, 2)))) (
   sndC (sd_putAF (C := RX11) (T := TX11) (N := 41) (hc := rfl) (hin0 := iX11) (hk := by decide) (hlink := w_1022) (ty0 := tyX11) (hty := tyX11_ok) (hnm := nmX11) (hfin := rfl) (hi2 := rfl) (hdecl := rfl) (hi := .inr ⟨_, rfl⟩) (hd := (by decide +kernel : decode cX11_init 41 = .ok (.putfield 26, 3)))) (
   sndC (sd_aload_n (hi := rfl) (hd := (by decide +kernel : decode cX11_init 44 = .ok (.aload_n 0, 1)))) (
   sndC (sd_bipush (hd := (by decide +kernel : decode cX11_init 45 = .ok (.bipush 6, 2))) (hv := by decide)) (
   sndC (sd_newI (hw0 := w_178) (hd := (by decide +kernel : decode cX11_init 47 = .ok (.newarray .int, 2)))) (
   sndC (sd_putAF (C := RX11) (T := TX11) (N := 41) (hc := rfl) (hin0 := iX11) (hk := by decide) (hlink := w_1023) (ty0 := tyX11) (hty := tyX11_ok) (hnm := nmX11) (hfin := rfl) (hi2 := rfl) (hdecl := rfl) (hi := .inr ⟨_, rfl⟩) (hd := (by decide +kernel : decode cX11_init 49 = .ok (.putfield 29, 3)))) (
   sndC (sd_aload_n (hi := rfl) (hd := (by decide +kernel : decode cX11_init 52 = .ok (.aload_n 0, 1)))) (
   sndC (sd_bipush (hd := (by decide +kernel : decode cX11_init 53 = .ok (.bipush 18, 2))) (hv := by decide)) (
   sndC (sd_newI (hw0 := w_178) (hd := (by decide +kernel : decode cX11_init 55 = .ok (.newarray .int, 2)))) (
   sndC (sd_putAF (C := RX11) (T := TX11) (N := 41) (hc := rfl) (hin0 := iX11) (hk := by decide) (hlink := w_1024) (ty0 := tyX11) (hty := tyX11_ok) (hnm := nmX11) (hfin := rfl) (hi2 := rfl) (hdecl := rfl) (hi := .inr ⟨_, rfl⟩) (hd := (by decide +kernel : decode cX11_init 57 = .ok (.putfield 32, 3)))) (
   sndC (sd_aload_n (hi := rfl) (hd := (by decide +kernel : decode cX11_init 60 = .ok (.aload_n 0, 1)))) (
   sndC (sd_sipush (hd := (by decide +kernel : decode cX11_init 61 = .ok (.sipush 576, 3))) (hv := by decide)) (
   sndC (sd_newI (hw0 := w_178) (hd := (by decide +kernel : decode cX11_init 64 = .ok (.newarray .int, 2)))) (
   sndC (sd_putAF (C := RX11) (T := TX11) (N := 41) (hc := rfl) (hin0 := iX11) (hk := by decide) (hlink := w_1041) (ty0 := tyX11) (hty := tyX11_ok) (hnm := nmX11) (hfin := rfl) (hi2 := rfl) (hdecl := rfl) (hi := .inr ⟨_, rfl⟩) (hd := (by decide +kernel : decode cX11_init 66 = .ok (.putfield 35, 3)))) (
   sndC (sd_aload_n (hi := rfl) (hd := (by decide +kernel : decode cX11_init 69 = .ok (.aload_n 0, 1)))) (
   sndC (sd_sipush (hd := (by decide +kernel : decode cX11_init 70 = .ok (.sipush 4096, 3))) (hv := by decide)) (
   sndC (sd_newI (hw0 := w_178) (hd := (by decide +kernel : decode cX11_init 73 = .ok (.newarray .int, 2)))) (
   sndC (sd_putAF (C := RX11) (T := TX11) (N := 41) (hc := rfl) (hin0 := iX11) (hk := by decide) (hlink := w_1042) (ty0 := tyX11) (hty := tyX11_ok) (hnm := nmX11) (hfin := rfl) (hi2 := rfl) (hdecl := rfl) (hi := .inr ⟨_, rfl⟩) (hd := (by decide +kernel : decode cX11_init 75 = .ok (.putfield 38, 3)))) (
   sndC (sd_aload_n (hi := rfl) (hd := (by decide +kernel : decode cX11_init 78 = .ok (.aload_n 0, 1)))) (
   sndC (sd_bipush (hd := (by decide +kernel : decode cX11_init 79 = .ok (.bipush 96, 2))) (hv := by decide)) (
   sndC (sd_newI (hw0 := w_178) (hd := (by decide +kernel : decode cX11_init 81 = .ok (.newarray .int, 2)))) (
   sndC (sd_putAF (C := RX11) (T := TX11) (N := 41) (hc := rfl) (hin0 := iX11) (hk := by decide) (hlink := w_1043) (ty0 := tyX11) (hty := tyX11_ok) (hnm := nmX11) (hfin := rfl) (hi2 := rfl) (hdecl := rfl) (hi := .inr ⟨_, rfl⟩) (hd := (by decide +kernel : decode cX11_init 83 = .ok (.putfield 41, 3)))) (
   sndC (sd_aload_n (hi := rfl) (hd := (by decide +kernel : decode cX11_init 86 = .ok (.aload_n 0, 1)))) (
   sndC (sd_sipush (hd := (by decide +kernel : decode cX11_init 87 = .ok (.sipush 4096, 3))) (hv := by decide)) (
   sndC (sd_newI (hw0 := w_178) (hd := (by decide +kernel : decode cX11_init 90 = .ok (.newarray .int, 2)))) (
   sndC (sd_putAF (C := RX11) (T := TX11) (N := 41) (hc := rfl) (hin0 := iX11) (hk := by decide) (hlink := w_1044) (ty0 := tyX11) (hty := tyX11_ok) (hnm := nmX11) (hfin := rfl) (hi2 := rfl) (hdecl := rfl) (hi := .inr ⟨_, rfl⟩) (hd := (by decide +kernel : decode cX11_init 92 = .ok (.putfield 44, 3)))) (
   sndC (sd_aload_n (hi := rfl) (hd := (by decide +kernel : decode cX11_init 95 = .ok (.aload_n 0, 1)))) (
   sndC (sd_bipush (hd := (by decide +kernel : decode cX11_init 96 = .ok (.bipush 6, 2))) (hv := by decide)) (
   sndC (sd_newI (hw0 := w_178) (hd := (by decide +kernel : decode cX11_init 98 = .ok (.newarray .int, 2)))) (
   sndC (sd_putAF (C := RX11) (T := TX11) (N := 41) (hc := rfl) (hin0 := iX11) (hk := by decide) (hlink := w_1045) (ty0 := tyX11) (hty := tyX11_ok) (hnm := nmX11) (hfin := rfl) (hi2 := rfl) (hdecl := rfl) (hi := .inr ⟨_, rfl⟩) (hd := (by decide +kernel : decode cX11_init 100 = .ok (.putfield 47, 3)))) (
   sndC (sd_aload_n (hi := rfl) (hd := (by decide +kernel : decode cX11_init 103 = .ok (.aload_n 0, 1)))) (
   sndC (sd_bipush (hd := (by decide +kernel : decode cX11_init 104 = .ok (.bipush 6, 2))) (hv := by decide)) (
   sndC (sd_newI (hw0 := w_178) (hd := (by decide +kernel : decode cX11_init 106 = .ok (.newarray .int, 2)))) (
   sndC (sd_putAF (C := RX11) (T := TX11) (N := 41) (hc := rfl) (hin0 := iX11) (hk := by decide) (hlink := w_1046) (ty0 := tyX11) (hty := tyX11_ok) (hnm := nmX11) (hfin := rfl) (hi2 := rfl) (hdecl := rfl) (hi := .inr ⟨_, rfl⟩) (hd := (by decide +kernel : decode cX11_init 108 = .ok (.putfield 50, 3)))) (
   sndC (sd_aload_n (hi := rfl) (hd := (by decide +kernel : decode cX11_init 111 = .ok (.aload_n 0, 1)))) (
   sndC (sd_bipush (hd := (by decide +kernel : decode cX11_init 112 = .ok (.bipush 18, 2))) (hv := by decide)) (
   sndC (sd_newI (hw0 := w_178) (hd := (by decide +kernel : decode cX11_init 114 = .ok (.newarray .int, 2)))) (
   sndC (sd_putAF (C := RX11) (T := TX11) (N := 41) (hc := rfl) (hin0 := iX11) (hk := by decide) (hlink := w_1047) (ty0 := tyX11) (hty := tyX11_ok) (hnm := nmX11) (hfin := rfl) (hi2 := rfl) (hdecl := rfl) (hi := .inr ⟨_, rfl⟩) (hd := (by decide +kernel : decode cX11_init 116 = .ok (.putfield 53, 3)))) (
   sndC (sd_aload_n (hi := rfl) (hd := (by decide +kernel : decode cX11_init 119 = .ok (.aload_n 0, 1)))) (
   sndC (sd_iconst (hd := (by decide +kernel : decode cX11_init 120 = .ok (.iconst (-1), 1))) (hv := by decide)) (
   sndC (sd_putI (C := RX11) (T := TX11) (N := 41) (hc := rfl) (hin0 := iX11) (hk := by decide) (hlink := w_1048) (ty0 := tyX11) (hty := tyX11_ok) (hnm := nmX11) (hfin := rfl) (hi := rfl) (hd := (by decide +kernel : decode cX11_init 121 = .ok (.putfield 56, 3)))) (
   sndC (sd_aload_n (hi := rfl) (hd := (by decide +kernel : decode cX11_init 124 = .ok (.aload_n 0, 1)))) (
   sndC (sd_iconst (hd := (by decide +kernel : decode cX11_init 125 = .ok (.iconst 4, 1))) (hv := by decide)) (
   sndC (sd_newZ (hw0 := w_1138) (hd := (by decide +kernel : decode cX11_init 126 = .ok (.newarray .boolean, 2)))) (
   sndC (sd_putAF (C := RX11) (T := TX11) (N := 41) (hc := rfl) (hin0 := iX11) (hk := by decide) (hlink := w_1051) (ty0 := tyX11) (hty := tyX11_ok) (hnm := nmX11) (hfin := rfl) (hi2 := rfl) (hdecl := rfl) (hi := .inr ⟨_, rfl⟩) (hd := (by decide +kernel : decode cX11_init 128 = .ok (.putfield 59, 3)))) (
   sndC (sd_aload_n (hi := rfl) (hd := (by decide +kernel : decode cX11_init 131 = .ok (.aload_n 0, 1)))) (
   sndC (sd_iconst (hd := (by decide +kernel : decode cX11_init 132 = .ok (.iconst 4, 1))) (hv := by decide)) (
   sndC (sd_newI (hw0 := w_178) (hd := (by decide +kernel : decode cX11_init 133 = .ok (.newarray .int, 2)))) (
   sndC (sd_putAF (C := RX11) (T := TX11) (N := 41) (hc := rfl) (hin0 := iX11) (hk := by decide) (hlink := w_1052) (ty0 := tyX11) (hty := tyX11_ok) (hnm := nmX11) (hfin := rfl) (hi2 := rfl) (hdecl := rfl) (hi := .inr ⟨_, rfl⟩) (hd := (by decide +kernel : decode cX11_init 135 = .ok (.putfield 63, 3)))) (
   sndC (sd_aload_n (hi := rfl) (hd := (by decide +kernel : decode cX11_init 138 = .ok (.aload_n 0, 1)))) (
   sndC (sd_iconst (hd := (by decide +kernel : decode cX11_init 139 = .ok (.iconst 4, 1))) (hv := by decide)) (
   sndC (sd_newI (hw0 := w_178) (hd := (by decide +kernel : decode cX11_init 140 = .ok (.newarray .int, 2)))) (
   sndC (sd_putAF (C := RX11) (T := TX11) (N := 41) (hc := rfl) (hin0 := iX11) (hk := by decide) (hlink := w_1053) (ty0 := tyX11) (hty := tyX11_ok) (hnm := nmX11) (hfin := rfl) (hi2 := rfl) (hdecl := rfl) (hi := .inr ⟨_, rfl⟩) (hd := (by decide +kernel : decode cX11_init 142 = .ok (.putfield 66, 3)))) (
   sndC (sd_aload_n (hi := rfl) (hd := (by decide +kernel : decode cX11_init 145 = .ok (.aload_n 0, 1)))) (
   sndC (sd_sipush (hd := (by decide +kernel : decode cX11_init 146 = .ok (.sipush 160, 3))) (hv := by decide)) (
   sndC (sd_newI (hw0 := w_178) (hd := (by decide +kernel : decode cX11_init 149 = .ok (.newarray .int, 2)))) (
   sndC (sd_putAF (C := RX11) (T := TX11) (N := 41) (hc := rfl) (hin0 := iX11) (hk := by decide) (hlink := w_1054) (ty0 := tyX11) (hty := tyX11_ok) (hnm := nmX11) (hfin := rfl) (hi2 := rfl) (hdecl := rfl) (hi := .inr ⟨_, rfl⟩) (hd := (by decide +kernel : decode cX11_init 151 = .ok (.putfield 69, 3)))) (
   sndC (sd_aload_n (hi := rfl) (hd := (by decide +kernel : decode cX11_init 154 = .ok (.aload_n 0, 1)))) (
   sndC (sd_iconst (hd := (by decide +kernel : decode cX11_init 155 = .ok (.iconst 0, 1))) (hv := by decide)) (
   sndC (sd_bipush (hd := (by decide +kernel : decode cX11_init 156 = .ok (.bipush 115, 2))) (hv := by decide)) (
   sndC (sd_bipush (hd := (by decide +kernel : decode cX11_init 158 = .ok (.bipush 104, 2))) (hv := by decide)) (
   sndC (sd_bipush (hd := (by decide +kernel : decode cX11_init 160 = .ok (.bipush 97, 2))) (hv := by decide)) (
   sndC (sd_bipush (hd := (by decide +kernel : decode cX11_init 162 = .ok (.bipush 109, 2))) (hv := by decide)) (
   sndC (sd_bipush (hd := (by decide +kernel : decode cX11_init 164 = .ok (.bipush 101, 2))) (hv := by decide)) (
   sndC (sd_bipush (hd := (by decide +kernel : decode cX11_init 166 = .ok (.bipush 115, 2))) (hv := by decide)) (
   sndC (sd_bipush (hd := (by decide +kernel : decode cX11_init 168 = .ok (.bipush 32, 2))) (hv := by decide)) (
   sndC (sd_bipush (hd := (by decide +kernel : decode cX11_init 170 = .ok (.bipush 100, 2))) (hv := by decide)) (
   sndC (sd_aload_n (hi := rfl) (hd := (by decide +kernel : decode cX11_init 175 = .ok (.aload_n 0, 1)))) (
   sndC (sd_bipush (hd := (by decide +kernel : decode cX11_init 176 = .ok (.bipush 8, 2))) (hv := by decide)) (
   sndC (sd_bipush (hd := (by decide +kernel : decode cX11_init 178 = .ok (.bipush 111, 2))) (hv := by decide)) (
   sndC (sd_bipush (hd := (by decide +kernel : decode cX11_init 180 = .ok (.bipush 105, 2))) (hv := by decide)) (
   sndC (sd_bipush (hd := (by decide +kernel : decode cX11_init 182 = .ok (.bipush 110, 2))) (hv := by decide)) (
   sndC (sd_bipush (hd := (by decide +kernel : decode cX11_init 184 = .ok (.bipush 103, 2))) (hv := by decide)) (
   sndC (sd_bipush (hd := (by decide +kernel : decode cX11_init 186 = .ok (.bipush 32, 2))) (hv := by decide)) (
   sndC (sd_bipush (hd := (by decide +kernel : decode cX11_init 188 = .ok (.bipush 42, 2))) (hv := by decide)) (
   sndC (sd_bipush (hd := (by decide +kernel : decode cX11_init 190 = .ok (.bipush 32, 2))) (hv := by decide)) (
   sndC (sd_bipush (hd := (by decide +kernel : decode cX11_init 192 = .ok (.bipush 49, 2))) (hv := by decide)) (
   sndC (sd_aload_n (hi := rfl) (hd := (by decide +kernel : decode cX11_init 197 = .ok (.aload_n 0, 1)))) (
   sndC (sd_bipush (hd := (by decide +kernel : decode cX11_init 198 = .ok (.bipush 16, 2))) (hv := by decide)) (
   sndC (sd_bipush (hd := (by decide +kernel : decode cX11_init 200 = .ok (.bipush 53, 2))) (hv := by decide)) (
   sndC (sd_bipush (hd := (by decide +kernel : decode cX11_init 202 = .ok (.bipush 32, 2))) (hv := by decide)) (
   sndC (sd_bipush (hd := (by decide +kernel : decode cX11_init 204 = .ok (.bipush 59, 2))) (hv := by decide)) (
   sndC (sd_bipush (hd := (by decide +kernel : decode cX11_init 206 = .ok (.bipush 32, 2))) (hv := by decide)) (
   sndC (sd_bipush (hd := (by decide +kernel : decode cX11_init 208 = .ok (.bipush 99, 2))) (hv := by decide)) (
   sndC (sd_bipush (hd := (by decide +kernel : decode cX11_init 210 = .ok (.bipush 111, 2))) (hv := by decide)) (
   sndC (sd_bipush (hd := (by decide +kernel : decode cX11_init 212 = .ok (.bipush 115, 2))) (hv := by decide)) (
   sndC (sd_bipush (hd := (by decide +kernel : decode cX11_init 214 = .ok (.bipush 116, 2))) (hv := by decide)) (
   sndC (sd_aload_n (hi := rfl) (hd := (by decide +kernel : decode cX11_init 219 = .ok (.aload_n 0, 1)))) (
   sndC (sd_bipush (hd := (by decide +kernel : decode cX11_init 220 = .ok (.bipush 24, 2))) (hv := by decide)) (
   sndC (sd_bipush (hd := (by decide +kernel : decode cX11_init 222 = .ok (.bipush 115, 2))) (hv := by decide)) (
   sndC (sd_bipush (hd := (by decide +kernel : decode cX11_init 224 = .ok (.bipush 32, 2))) (hv := by decide)) (
   sndC (sd_bipush (hd := (by decide +kernel : decode cX11_init 226 = .ok (.bipush 115, 2))) (hv := by decide)) (
   sndC (sd_bipush (hd := (by decide +kernel : decode cX11_init 228 = .ok (.bipush 101, 2))) (hv := by decide)) (
   sndC (sd_bipush (hd := (by decide +kernel : decode cX11_init 230 = .ok (.bipush 101, 2))) (hv := by decide)) (
   sndC (sd_bipush (hd := (by decide +kernel : decode cX11_init 232 = .ok (.bipush 110, 2))) (hv := by decide)) (
   sndC (sd_bipush (hd := (by decide +kernel : decode cX11_init 234 = .ok (.bipush 32, 2))) (hv := by decide)) (
   sndC (sd_bipush (hd := (by decide +kernel : decode cX11_init 236 = .ok (.bipush 59, 2))) (hv := by decide)) (
   sndC (sd_aload_n (hi := rfl) (hd := (by decide +kernel : decode cX11_init 241 = .ok (.aload_n 0, 1)))) (
   sndC (sd_bipush (hd := (by decide +kernel : decode cX11_init 242 = .ok (.bipush 32, 2))) (hv := by decide)) (
   sndC (sd_bipush (hd := (by decide +kernel : decode cX11_init 244 = .ok (.bipush 32, 2))) (hv := by decide)) (
   sndC (sd_bipush (hd := (by decide +kernel : decode cX11_init 246 = .ok (.bipush 119, 2))) (hv := by decide)) (
   sndC (sd_bipush (hd := (by decide +kernel : decode cX11_init 248 = .ok (.bipush 111, 2))) (hv := by decide)) (
   sndC (sd_bipush (hd := (by decide +kernel : decode cX11_init 250 = .ok (.bipush 114, 2))) (hv := by decide)) (
   sndC (sd_bipush (hd := (by decide +kernel : decode cX11_init 252 = .ok (.bipush 116, 2))) (hv := by decide)) (
   sndC (sd_bipush (hd := (by decide +kernel : decode cX11_init 254 = .ok (.bipush 104, 2))) (hv := by decide)) (
   sndC (sd_bipush (hd := (by decide +kernel : decode cX11_init 256 = .ok (.bipush 32, 2))) (hv := by decide)) (
   sndC (sd_bipush (hd := (by decide +kernel : decode cX11_init 258 = .ok (.bipush 100, 2))) (hv := by decide)) (
   sndC (sd_aload_n (hi := rfl) (hd := (by decide +kernel : decode cX11_init 263 = .ok (.aload_n 0, 1)))) (
   sndC (sd_bipush (hd := (by decide +kernel : decode cX11_init 264 = .ok (.bipush 40, 2))) (hv := by decide)) (
   sndC (sd_bipush (hd := (by decide +kernel : decode cX11_init 266 = .ok (.bipush 111, 2))) (hv := by decide)) (
   sndC (sd_bipush (hd := (by decide +kernel : decode cX11_init 268 = .ok (.bipush 105, 2))) (hv := by decide)) (
   sndC (sd_bipush (hd := (by decide +kernel : decode cX11_init 270 = .ok (.bipush 110, 2))) (hv := by decide)) (
   sndC (sd_bipush (hd := (by decide +kernel : decode cX11_init 272 = .ok (.bipush 103, 2))) (hv := by decide)) (
   sndC (sd_bipush (hd := (by decide +kernel : decode cX11_init 274 = .ok (.bipush 32, 2))) (hv := by decide)) (
   sndC (sd_bipush (hd := (by decide +kernel : decode cX11_init 276 = .ok (.bipush 59, 2))) (hv := by decide)) (
   sndC (sd_bipush (hd := (by decide +kernel : decode cX11_init 278 = .ok (.bipush 32, 2))) (hv := by decide)) (
   sndC (sd_bipush (hd := (by decide +kernel : decode cX11_init 280 = .ok (.bipush 32, 2))) (hv := by decide)) (
   sndC (sd_aload_n (hi := rfl) (hd := (by decide +kernel : decode cX11_init 285 = .ok (.aload_n 0, 1)))) (
   sndC (sd_get (C := RX11) (T := TX11) (N := 41) (hc := rfl) (hin0 := iX11) (hk := by decide) (hlink := w_1016) (hd := (by decide +kernel : decode cX11_init 286 = .ok (.getfield 17, 3)))) (
   sndC (sd_iconst (hd := (by decide +kernel : decode cX11_init 289 = .ok (.iconst 0, 1))) (hv := by decide)) (
   sndC (sd_bipush (hd := (by decide +kernel : decode cX11_init 290 = .ok (.bipush 48, 2))) (hv := by decide)) (
   sndC (sd_iast (hd := (by decide +kernel : decode cX11_init 292 = .ok (.iastore, 1)))) (
   sndC (sd_aload_n (hi := rfl) (hd := (by decide +kernel : decode cX11_init 293 = .ok (.aload_n 0, 1)))) (
   sndC (sd_iconst (hd := (by decide +kernel : decode cX11_init 294 = .ok (.iconst 1, 1))) (hv := by decide)) (
   sndC (sd_putI (C := RX11) (T := TX11) (N := 41) (hc := rfl) (hin0 := iX11) (hk := by decide) (hlink := w_1017) (ty0 := tyX11) (hty := tyX11_ok) (hnm := nmX11) (hfin := rfl) (hi := rfl) (hd := (by decide +kernel : decode cX11_init 295 = .ok (.putfield 76, 3)))) (
   sndN))))))))))))))))))))))))))))))))))))))))))))))))))))))))))))))))))))))))))))))))))))))))))))))))))))))))))))))))))))))))))))))))))))))))))))))))⟩
theorem kX11_init_172 : CallAt mX11_init 172 0 mX11_spell 9 := ⟨by decide +kernel, ⟨_, (by decide +kernel : decode cX11_init 172 = .ok (.invokevirtual 72, 3)), w_1011, w_1013, w_46⟩⟩
theorem kX11_init_194 : CallAt mX11_init 194 0 mX11_spell 9 := ⟨by decide +kernel, ⟨_, (by decide +kernel : decode cX11_init 194 = .ok (.invokevirtual 72, 3)), w_1011, w_1013, w_46⟩⟩
theorem kX11_init_216 : CallAt mX11_init 216 0 mX11_spell 9 := ⟨by decide +kernel, ⟨_, (by decide +kernel : decode cX11_init 216 = .ok (.invokevirtual 72, 3)), w_1011, w_1013, w_46⟩⟩
theorem kX11_init_238 : CallAt mX11_init 238 0 mX11_spell 9 := ⟨by decide +kernel, ⟨_, (by decide +kernel : decode cX11_init 238 = .ok (.invokevirtual 72, 3)), w_1011, w_1013, w_46⟩⟩
theorem kX11_init_260 : CallAt mX11_init 260 0 mX11_spell 9 := ⟨by decide +kernel, ⟨_, (by decide +kernel : decode cX11_init 260 = .ok (.invokevirtual 72, 3)), w_1011, w_1013, w_46⟩⟩
theorem kX11_init_282 : CallAt mX11_init 282 0 mX11_spell 9 := ⟨by decide +kernel, ⟨_, (by decide +kernel : decode cX11_init 282 = .ok (.invokevirtual 72, 3)), w_1011, w_1013, w_46⟩⟩

set_option maxRecDepth 20000 in
theorem GX11_spell : Good mX11_spell := ⟨by decide +kernel, List.mem_of_getElem? (i := 1014) (by decide +kernel), inX11, ⟨by decide +kernel, by decide +kernel⟩, by decide, show ∀ q ∈ tX11_spell, Snd mX11_spell q.1 q.2 from
  sndC (sd_aload_n (hi := rfl) (hd := (by decide +kernel : decode cX11_spell 0 = .ok (.aload_n 0, 1)))) (
   sndC (sd_get (C := RX11) (T := TX11) (N := 41) (hc := rfl) (hin0 := iX11) (hk := by decide) (hlink := w_1015) (hd := (by decide +kernel : decode cX11_spell 1 = .ok (.getfield 13, 3)))) (
   sndC (sd_iload_n (hi := rfl) (hd := (by decide +kernel : decode cX11_spell 4 = .ok (.iload_n 1, 1)))) (
   sndC (sd_iload_n (hi := rfl) (hd := (by decide +kernel : decode cX11_spell 5 = .ok (.iload_n 2, 1)))) (
   sndC (sd_iast (hd := (by decide +kernel : decode cX11_spell 6 = .ok (.iastore, 1)))) (
   sndC (sd_aload_n (hi := rfl) (hd := (by decide +kernel : decode cX11_spell 7 = .ok (.aload_n 0, 1)))) (
   sndC (sd_get (C := RX11) (T := TX11) (N := 41) (hc := rfl) (hin0 := iX11) (hk := by decide) (hlink := w_1015) (hd := (by decide +kernel : decode cX11_spell 8 = .ok (.getfield 13, 3)))) (
   sndC (sd_iload_n (hi := rfl) (hd := (by decide +kernel : decode cX11_spell 11 = .ok (.iload_n 1, 1)))) (
   sndC (sd_iconst (hd := (by decide +kernel : decode cX11_spell 12 = .ok (.iconst 1, 1))) (hv := by decide)) (
   sndC (sd_iadd (hd := (by decide +kernel : decode cX11_spell 13 = .ok (.iadd, 1)))) (
   sndC (sd_iload_n (hi := rfl) (hd := (by decide +kernel : decode cX11_spell 14 = .ok (.iload_n 3, 1)))) (
   sndC (sd_iast (hd := (by decide +kernel : decode cX11_spell 15 = .ok (.iastore, 1)))) (
   sndC (sd_aload_n (hi := rfl) (hd := (by decide +kernel : decode cX11_spell 16 = .ok (.aload_n 0, 1)))) (
   sndC (sd_get (C := RX11) (T := TX11) (N := 41) (hc := rfl) (hin0 := iX11) (hk := by decide) (hlink := w_1015) (hd := (by decide +kernel : decode cX11_spell 17 = .ok (.getfield 13, 3)))) (
   sndC (sd_iload_n (hi := rfl) (hd := (by decide +kernel : decode cX11_spell 20 = .ok (.iload_n 1, 1)))) (
   sndC (sd_iconst (hd := (by decide +kernel : decode cX11_spell 21 = .ok (.iconst 2, 1))) (hv := by decide)) (
   sndC (sd_iadd (hd := (by decide +kernel : decode cX11_spell 22 = .ok (.iadd, 1)))) (
   sndC (sd_iload (hd := (by decide +kernel : decode cX11_spell 23 = .ok (.iload 4, 2)))) (
   sndC (sd_iast (hd := (by decide +kernel : decode cX11_spell 25 = .ok (.iastore, 1)))) (
   sndC (sd_aload_n (hi := rfl) (hd := (by decide +kernel : decode cX11_spell 26 = .ok (.aload_n 0, 1)))) (
   sndC (sd_get (C := RX11) (T := TX11) (N := 41) (hc := rfl) (hin0 := iX11) (hk := by decide) (hlink := w_1015) (hd := (by decide +kernel : decode cX11_spell 27 = .ok (.getfield 13, 3)))) (
   sndC (sd_iload_n (hi := rfl) (hd := (by decide +kernel : decode cX11_spell 30 = .ok (.iload_n 1, 1)))) (
   sndC (sd_iconst (hd := (by decide +kernel : decode cX11_spell 31 = .ok (.iconst 3, 1))) (hv := by decide)) (
   sndC (sd_iadd (hd := (by decide +kernel : decode cX11_spell 32 = .ok (.iadd, 1)))) (
   sndC (sd_iload (hd := (by decide +kernel : decode cX11_spell 33 = .ok (.iload 5, 2)))) (
   sndC (sd_iast (hd := (by decide +kernel : decode cX11_spell 35 = .ok (.iastore, 1)))) (
   sndC (sd_aload_n (hi := rfl) (hd := (by decide +kernel : decode cX11_spell 36 = .ok (.aload_n 0, 1)))) (
   sndC (sd_get (C := RX11) (T := TX11) (N := 41) (hc := rfl) (hin0 := iX11) (hk := by decide) (hlink := w_1015) (hd := (by decide +kernel : decode cX11_spell 37 = .ok (.getfield 13, 3)))) (
   sndC (sd_iload_n (hi := rfl) (hd := (by decide +kernel : decode cX11_spell 40 = .ok (.iload_n 1, 1)))) (
   sndC (sd_iconst (hd := (by decide +kernel : decode cX11_spell 41 = .ok (.iconst 4, 1))) (hv := by decide)) (
   sndC (sd_iadd (hd := (by decide +kernel : decode cX11_spell 42 = .ok (.iadd, 1)))) (
   sndC (sd_iload (hd := (by decide +kernel : decode cX11_spell 43 = .ok (.iload 6, 2)))) (
   sndC (sd_iast (hd := (by decide +kernel : decode cX11_spell 45 = .ok (.iastore, 1)))) (
   sndC (sd_aload_n (hi := rfl) (hd := (by decide +kernel : decode cX11_spell 46 = .ok (.aload_n 0, 1)))) (
   sndC (sd_get (C := RX11) (T := TX11) (N := 41) (hc := rfl) (hin0 := iX11) (hk := by decide) (hlink := w_1015) (hd := (by decide +kernel : decode cX11_spell 47 = .ok (.getfield 13, 3)))) (
   sndC (sd_iload_n (hi := rfl) (hd := (by decide +kernel : decode cX11_spell 50 = .ok (.iload_n 1, 1)))) (
   sndC (sd_iconst (hd := (by decide +kernel : decode cX11_spell 51 = .ok (.iconst 5, 1))) (hv := by decide)) (
   sndC (sd_iadd (hd := (by decide +kernel : decode cX11_spell 52 = .ok (.iadd, 1)))) (
   sndC (sd_iload (hd := (by decide +kernel : decode cX11_spell 53 = .ok (.iload 7, 2)))) (
   sndC (sd_iast (hd := (by decide +kernel : decode cX11_spell 55 = .ok (.iastore, 1)))) (
   sndC (sd_aload_n (hi := rfl) (hd := (by decide +kernel : decode cX11_spell 56 = .ok (.aload_n 0, 1)))) (
   sndC (sd_get (C := RX11) (T := TX11) (N := 41) (hc := rfl) (hin0 := iX11) (hk := by decide) (hlink := w_1015) (hd := (by decide +kernel : decode cX11_spell 57 = .ok (.getfield 13, 3)))) (
   sndC (sd_iload_n (hi := rfl) (hd := (by decide +kernel : decode cX11_spell 60 = .ok (.iload_n 1, 1)))) (
   sndC (sd_bipush (hd := (by decide +kernel : decode cX11_spell 61 = .ok (.bipush 6, 2))) (hv := by decide)) (
   sndC (sd_iadd (hd := (by decide +kernel : decode cX11_spell 63 = .ok (.iadd, 1)))) (
   sndC (sd_iload (hd := (by decide +kernel : decode cX11_spell 64 = .ok (.iload 8, 2)))) (
   sndC (sd_iast (hd := (by decide +kernel : decode cX11_spell 66 = .ok (.iastore, 1)))) (
   sndC (sd_aload_n (hi := rfl) (hd := (by decide +kernel : decode cX11_spell 67 = .ok (.aload_n 0, 1)))) (
   sndC (sd_get (C := RX11) (T := TX11) (N := 41) (hc := rfl) (hin0 := iX11) (hk := by decide) (hlink := w_1015) (hd := (by decide +kernel : decode cX11_spell 68 = .ok (.getfield 13, 3)))) (
   sndC (sd_iload_n (hi := rfl) (hd := (by decide +kernel : decode cX11_spell 71 = .ok (.iload_n 1, 1)))) (
   sndC (sd_bipush (hd := (by decide +kernel : decode cX11_spell 72 = .ok (.bipush 7, 2))) (hv := by decide)) (
   sndC (sd_iadd (hd := (by decide +kernel : decode cX11_spell 74 = .ok (.iadd, 1)))) (
   sndC (sd_iload (hd := (by decide +kernel : decode cX11_spell 75 = .ok (.iload 9, 2)))) (
   sndC (sd_iast (hd := (by decide +kernel : decode cX11_spell 77 = .ok (.iastore, 1)))) (
   sndN))))))))))))))))))))))))))))))))))))))))))))))))))))))⟩


set_option maxRecDepth 20000 in
theorem GX11_isWitness : Good mX11_isWitness := ⟨by decide +kernel, List.mem_of_getElem? (i := 1158) (by decide +kernel), inX11, ⟨by decide +kernel, by decide +kernel⟩, by decide, show ∀ q ∈ tX11_isWitness, Snd mX11_isWitness q.1 q.2 from
  sndC (sd_iload_n (hi := rfl) (hd := (by decide +kernel : decode cX11_isWitness 0 = .ok (.iload_n 1, 1)))) (
   sndC (sd_i2l (hd := (by decide +kernel : decode cX11_isWitness 1 = .ok (.i2l, 1)))) (
   sndC (sd_lconst (hd := (by decide +kernel : decode cX11_isWitness 2 = .ok (.lconst 0, 1))) (hv := by decide)) (
   sndC (sd_aload_n (hi := rfl) (hd := (by decide +kernel : decode cX11_isWitness 3 = .ok (.aload_n 0, 1)))) (
   sndC (sd_get (C := RX11) (T := TX11) (N := 41) (hc := rfl) (hin0 := iX11) (hk := by decide) (hlink := w_1025) (hd := (by decide +kernel : decode cX11_isWitness 4 = .ok (.getfield 79, 3)))) (
   sndC (sd_iconst (hd := (by decide +kernel : decode cX11_isWitness 7 = .ok (.iconst 1, 1))) (hv := by decide)) (
   sndC (sd_isub (hd := (by decide +kernel : decode cX11_isWitness 8 = .ok (.isub, 1)))) (
   sndC (sd_i2l (hd := (by decide +kernel : decode cX11_isWitness 9 = .ok (.i2l, 1)))) (
   sndN))))))))⟩
theorem kX11_isWitness_10 : CallAt mX11_isWitness 10 1 mX11_in 3 := ⟨by decide +kernel, ⟨_, (by decide +kernel : decode cX11_isWitness 10 = .ok (.invokestatic 82, 3)), w_1144, w_1145⟩⟩

set_option maxRecDepth 20000 in
theorem GX11_isStep : Good mX11_isStep := ⟨by decide +kernel, List.mem_of_getElem? (i := 1153) (by decide +kernel), inX11, ⟨by decide +kernel, by decide +kernel⟩, by decide, show ∀ q ∈ tX11_isStep, Snd mX11_isStep q.1 q.2 from
  sndC (sd_iload_n (hi := rfl) (hd := (by decide +kernel : decode cX11_isStep 0 = .ok (.iload_n 0, 1)))) (
   sndC (sd_i2l (hd := (by decide +kernel : decode cX11_isStep 1 = .ok (.i2l, 1)))) (
   sndC (sd_lconst (hd := (by decide +kernel : decode cX11_isStep 2 = .ok (.lconst 0, 1))) (hv := by decide)) (
   sndC (sd_ldc2 (hw := w_1154) (hd := (by decide +kernel : decode cX11_isStep 3 = .ok (.ldc2_w 86, 3)))) (
   sndN))))⟩
theorem kX11_isStep_6 : CallAt mX11_isStep 6 1 mX11_in 3 := ⟨by decide +kernel, ⟨_, (by decide +kernel : decode cX11_isStep 6 = .ok (.invokestatic 82, 3)), w_1144, w_1145⟩⟩

set_option maxRecDepth 20000 in
theorem GX11_isOf : Good mX11_isOf := ⟨by decide +kernel, List.mem_of_getElem? (i := 1150) (by decide +kernel), inX11, ⟨by decide +kernel, by decide +kernel⟩, by decide, show ∀ q ∈ tX11_isOf, Snd mX11_isOf q.1 q.2 from
  sndC (sd_iload_n (hi := rfl) (hd := (by decide +kernel : decode cX11_isOf 0 = .ok (.iload_n 1, 1)))) (
   sndC (sd_if_eq (ht := by decide) (hd := (by decide +kernel : decode cX11_isOf 1 = .ok (.ifCond .eq 26, 3)))) (
   sndC (sd_iload_n (hi := rfl) (hd := (by decide +kernel : decode cX11_isOf 4 = .ok (.iload_n 1, 1)))) (
   sndC (sd_iconst (hd := (by decide +kernel : decode cX11_isOf 5 = .ok (.iconst 1, 1))) (hv := by decide)) (
   sndC (sd_cmp_ne (ht := by decide) (hd := (by decide +kernel : decode cX11_isOf 6 = .ok (.if_icmp .ne 13, 3)))) (
   sndC (sd_iload_n (hi := rfl) (hd := (by decide +kernel : decode cX11_isOf 9 = .ok (.iload_n 2, 1)))) (
   sndC (sd_if_eq (ht := by decide) (hd := (by decide +kernel : decode cX11_isOf 13 = .ok (.ifCond .eq 18, 3)))) (
   sndC (sd_goto (ht := by decide) (hd := (by decide +kernel : decode cX11_isOf 16 = .ok (.goto 11, 3)))) (
   sndC (sd_aload_n (hi := rfl) (hd := (by decide +kernel : decode cX11_isOf 19 = .ok (.aload_n 0, 1)))) (
   sndC (sd_iload_n (hi := rfl) (hd := (by decide +kernel : decode cX11_isOf 20 = .ok (.iload_n 2, 1)))) (
   sndC (sd_if_eq (ht := by decide) (hd := (by decide +kernel : decode cX11_isOf 24 = .ok (.ifCond .eq 7, 3)))) (
   sndC (sd_iconst (hd := (by decide +kernel : decode cX11_isOf 27 = .ok (.iconst 1, 1))) (hv := by decide)) (
   sndC (sd_goto (ht := by decide) (hd := (by decide +kernel : decode cX11_isOf 28 = .ok (.goto 4, 3)))) (
   sndC (sd_iconst (hd := (by decide +kernel : decode cX11_isOf 31 = .ok (.iconst 0, 1))) (hv := by decide)) (
   sndN))))))))))))))⟩
theorem kX11_isOf_10 : CallAt mX11_isOf 10 1 mX11_isStep 1 := ⟨by decide +kernel, ⟨_, (by decide +kernel : decode cX11_isOf 10 = .ok (.invokestatic 88, 3)), w_1151, w_1152⟩⟩
theorem kX11_isOf_21 : CallAt mX11_isOf 21 0 mX11_isWitness 1 := ⟨by decide +kernel, ⟨_, (by decide +kernel : decode cX11_isOf 21 = .ok (.invokevirtual 92, 3)), w_1155, w_1157, w_48⟩⟩

set_option maxRecDepth 20000 in
theorem GX11_mostOf : Good mX11_mostOf := ⟨by decide +kernel, List.mem_of_getElem? (i := 1161) (by decide +kernel), inX11, ⟨by decide +kernel, by decide +kernel⟩, by decide, show ∀ q ∈ tX11_mostOf, Snd mX11_mostOf q.1 q.2 from
  sndC (sd_iload_n (hi := rfl) (hd := (by decide +kernel : decode cX11_mostOf 0 = .ok (.iload_n 0, 1)))) (
   sndC (sd_if_ne (ht := by decide) (hd := (by decide +kernel : decode cX11_mostOf 1 = .ok (.ifCond .ne 8, 3)))) (
   sndC (sd_bipush (hd := (by decide +kernel : decode cX11_mostOf 4 = .ok (.bipush 99, 2))) (hv := by decide)) (
   sndC (sd_goto (ht := by decide) (hd := (by decide +kernel : decode cX11_mostOf 6 = .ok (.goto 33, 3)))) (
   sndC (sd_iload_n (hi := rfl) (hd := (by decide +kernel : decode cX11_mostOf 9 = .ok (.iload_n 0, 1)))) (
   sndC (sd_iconst (hd := (by decide +kernel : decode cX11_mostOf 10 = .ok (.iconst 1, 1))) (hv := by decide)) (
   sndC (sd_cmp_ne (ht := by decide) (hd := (by decide +kernel : decode cX11_mostOf 11 = .ok (.if_icmp .ne 7, 3)))) (
   sndC (sd_iconst (hd := (by decide +kernel : decode cX11_mostOf 14 = .ok (.iconst 3, 1))) (hv := by decide)) (
   sndC (sd_goto (ht := by decide) (hd := (by decide +kernel : decode cX11_mostOf 15 = .ok (.goto 24, 3)))) (
   sndC (sd_iload_n (hi := rfl) (hd := (by decide +kernel : decode cX11_mostOf 18 = .ok (.iload_n 0, 1)))) (
   sndC (sd_iconst (hd := (by decide +kernel : decode cX11_mostOf 19 = .ok (.iconst 2, 1))) (hv := by decide)) (
   sndC (sd_cmp_ne (ht := by decide) (hd := (by decide +kernel : decode cX11_mostOf 20 = .ok (.if_icmp .ne 8, 3)))) (
   sndC (sd_bipush (hd := (by decide +kernel : decode cX11_mostOf 23 = .ok (.bipush 9, 2))) (hv := by decide)) (
   sndC (sd_goto (ht := by decide) (hd := (by decide +kernel : decode cX11_mostOf 25 = .ok (.goto 14, 3)))) (
   sndC (sd_iload_n (hi := rfl) (hd := (by decide +kernel : decode cX11_mostOf 28 = .ok (.iload_n 0, 1)))) (
   sndC (sd_iconst (hd := (by decide +kernel : decode cX11_mostOf 29 = .ok (.iconst 3, 1))) (hv := by decide)) (
   sndC (sd_cmp_ne (ht := by decide) (hd := (by decide +kernel : decode cX11_mostOf 30 = .ok (.if_icmp .ne 8, 3)))) (
   sndC (sd_bipush (hd := (by decide +kernel : decode cX11_mostOf 33 = .ok (.bipush 63, 2))) (hv := by decide)) (
   sndC (sd_goto (ht := by decide) (hd := (by decide +kernel : decode cX11_mostOf 35 = .ok (.goto 4, 3)))) (
   sndC (sd_iconst (hd := (by decide +kernel : decode cX11_mostOf 38 = .ok (.iconst 1, 1))) (hv := by decide)) (
   sndN))))))))))))))))))))⟩


set_option maxRecDepth 20000 in
theorem GX11_set : Good mX11_set := ⟨by decide +kernel, List.mem_of_getElem? (i := 1142) (by decide +kernel), inX11, ⟨by decide +kernel, by decide +kernel⟩, by decide, show ∀ q ∈ tX11_set, Snd mX11_set q.1 q.2 from
  sndC (sd_iload_n (hi := rfl) (hd := (by decide +kernel : decode cX11_set 0 = .ok (.iload_n 1, 1)))) (
   sndC (sd_i2l (hd := (by decide +kernel : decode cX11_set 1 = .ok (.i2l, 1)))) (
   sndC (sd_lconst (hd := (by decide +kernel : decode cX11_set 2 = .ok (.lconst 0, 1))) (hv := by decide)) (
   sndC (sd_ldc2 (hw := w_1143) (hd := (by decide +kernel : decode cX11_set 3 = .ok (.ldc2_w 95, 3)))) (
   sndC (sd_if_eq (ht := by decide) (hd := (by decide +kernel : decode cX11_set 9 = .ok (.ifCond .eq 26, 3)))) (
   sndC (sd_aload_n (hi := rfl) (hd := (by decide +kernel : decode cX11_set 12 = .ok (.aload_n 0, 1)))) (
   sndC (sd_iload_n (hi := rfl) (hd := (by decide +kernel : decode cX11_set 13 = .ok (.iload_n 1, 1)))) (
   sndC (sd_iload_n (hi := rfl) (hd := (by decide +kernel : decode cX11_set 14 = .ok (.iload_n 2, 1)))) (
   sndC (sd_if_eq (ht := by decide) (hd := (by decide +kernel : decode cX11_set 18 = .ok (.ifCond .eq 17, 3)))) (
   sndC (sd_iload_n (hi := rfl) (hd := (by decide +kernel : decode cX11_set 21 = .ok (.iload_n 3, 1)))) (
   sndC (sd_i2l (hd := (by decide +kernel : decode cX11_set 22 = .ok (.i2l, 1)))) (
   sndC (sd_lconst (hd := (by decide +kernel : decode cX11_set 23 = .ok (.lconst 0, 1))) (hv := by decide)) (
   sndC (sd_iload_n (hi := rfl) (hd := (by decide +kernel : decode cX11_set 24 = .ok (.iload_n 1, 1)))) (
   sndC (sd_i2l (hd := (by decide +kernel : decode cX11_set 28 = .ok (.i2l, 1)))) (
   sndC (sd_if_ne (ht := by decide) (hd := (by decide +kernel : decode cX11_set 32 = .ok (.ifCond .ne 6, 3)))) (
   sndC (sd_bipush (hd := (by decide +kernel : decode cX11_set 35 = .ok (.bipush (-2), 2))) (hv := by decide)) (
   sndC (sd_aload_n (hi := rfl) (hd := (by decide +kernel : decode cX11_set 38 = .ok (.aload_n 0, 1)))) (
   sndC (sd_iload_n (hi := rfl) (hd := (by decide +kernel : decode cX11_set 39 = .ok (.iload_n 2, 1)))) (
   sndC (sd_iload_n (hi := rfl) (hd := (by decide +kernel : decode cX11_set 40 = .ok (.iload_n 1, 1)))) (
   sndC (sd_istore (hd := (by decide +kernel : decode cX11_set 44 = .ok (.istore 4, 2)))) (
   sndC (sd_aload_n (hi := rfl) (hd := (by decide +kernel : decode cX11_set 46 = .ok (.aload_n 0, 1)))) (
   sndC (sd_iload_n (hi := rfl) (hd := (by decide +kernel : decode cX11_set 47 = .ok (.iload_n 1, 1)))) (
   sndC (sd_iload_n (hi := rfl) (hd := (by decide +kernel : decode cX11_set 48 = .ok (.iload_n 2, 1)))) (
   sndC (sd_iload_n (hi := rfl) (hd := (by decide +kernel : decode cX11_set 49 = .ok (.iload_n 3, 1)))) (
   sndC (sd_iload (hd := (by decide +kernel : decode cX11_set 53 = .ok (.iload 4, 2)))) (
   sndN)))))))))))))))))))))))))⟩
theorem kX11_set_6 : CallAt mX11_set 6 1 mX11_in 3 := ⟨by decide +kernel, ⟨_, (by decide +kernel : decode cX11_set 6 = .ok (.invokestatic 82, 3)), w_1144, w_1145⟩⟩
theorem kX11_set_15 : CallAt mX11_set 15 0 mX11_isOf 2 := ⟨by decide +kernel, ⟨_, (by decide +kernel : decode cX11_set 15 = .ok (.invokevirtual 97, 3)), w_1147, w_1149, w_47⟩⟩
theorem kX11_set_25 : CallAt mX11_set 25 1 mX11_mostOf 1 := ⟨by decide +kernel, ⟨_, (by decide +kernel : decode cX11_set 25 = .ok (.invokestatic 101, 3)), w_1159, w_1160⟩⟩
theorem kX11_set_29 : CallAt mX11_set 29 1 mX11_in 3 := ⟨by decide +kernel, ⟨_, (by decide +kernel : decode cX11_set 29 = .ok (.invokestatic 82, 3)), w_1144, w_1145⟩⟩
theorem kX11_set_41 : CallAt mX11_set 41 0 mX11_told 2 := ⟨by decide +kernel, ⟨_, (by decide +kernel : decode cX11_set 41 = .ok (.invokevirtual 105, 3)), w_1162, w_1163, w_1164⟩⟩
theorem kX11_set_50 : CallAt mX11_set 50 0 mX11_lays 3 := ⟨by decide +kernel, ⟨_, (by decide +kernel : decode cX11_set 50 = .ok (.invokevirtual 109, 3)), w_1381, w_1383, w_99⟩⟩

set_option maxRecDepth 20000 in
theorem GX11_lays : Good mX11_lays := ⟨by decide +kernel, List.mem_of_getElem? (i := 1384) (by decide +kernel), inX11, ⟨by decide +kernel, by decide +kernel⟩, by decide, show ∀ q ∈ tX11_lays, Snd mX11_lays q.1 q.2 from
  sndC (sd_iload_n (hi := rfl) (hd := (by decide +kernel : decode cX11_lays 0 = .ok (.iload_n 1, 1)))) (
   sndC (sd_if_ne (ht := by decide) (hd := (by decide +kernel : decode cX11_lays 1 = .ok (.ifCond .ne 11, 3)))) (
   sndC (sd_aload_n (hi := rfl) (hd := (by decide +kernel : decode cX11_lays 4 = .ok (.aload_n 0, 1)))) (
   sndC (sd_iload_n (hi := rfl) (hd := (by decide +kernel : decode cX11_lays 5 = .ok (.iload_n 3, 1)))) (
   sndC (sd_putI (C := RX11) (T := TX11) (N := 41) (hc := rfl) (hin0 := iX11) (hk := by decide) (hlink := w_1021) (ty0 := tyX11) (hty := tyX11_ok) (hnm := nmX11) (hfin := rfl) (hi := rfl) (hd := (by decide +kernel : decode cX11_lays 6 = .ok (.putfield 23, 3)))) (
   sndC (sd_goto (ht := by decide) (hd := (by decide +kernel : decode cX11_lays 9 = .ok (.goto 59, 3)))) (
   sndC (sd_iload_n (hi := rfl) (hd := (by decide +kernel : decode cX11_lays 12 = .ok (.iload_n 1, 1)))) (
   sndC (sd_iconst (hd := (by decide +kernel : decode cX11_lays 13 = .ok (.iconst 1, 1))) (hv := by decide)) (
   sndC (sd_cmp_ne (ht := by decide) (hd := (by decide +kernel : decode cX11_lays 14 = .ok (.if_icmp .ne 13, 3)))) (
   sndC (sd_aload_n (hi := rfl) (hd := (by decide +kernel : decode cX11_lays 17 = .ok (.aload_n 0, 1)))) (
   sndC (sd_get (C := RX11) (T := TX11) (N := 41) (hc := rfl) (hin0 := iX11) (hk := by decide) (hlink := w_1022) (hd := (by decide +kernel : decode cX11_lays 18 = .ok (.getfield 26, 3)))) (
   sndC (sd_iload_n (hi := rfl) (hd := (by decide +kernel : decode cX11_lays 21 = .ok (.iload_n 2, 1)))) (
   sndC (sd_iload_n (hi := rfl) (hd := (by decide +kernel : decode cX11_lays 22 = .ok (.iload_n 3, 1)))) (
   sndC (sd_iast (hd := (by decide +kernel : decode cX11_lays 23 = .ok (.iastore, 1)))) (
   sndC (sd_goto (ht := by decide) (hd := (by decide +kernel : decode cX11_lays 24 = .ok (.goto 44, 3)))) (
   sndC (sd_iload_n (hi := rfl) (hd := (by decide +kernel : decode cX11_lays 27 = .ok (.iload_n 1, 1)))) (
   sndC (sd_iconst (hd := (by decide +kernel : decode cX11_lays 28 = .ok (.iconst 5, 1))) (hv := by decide)) (
   sndC (sd_cmp_ge (ht := by decide) (hd := (by decide +kernel : decode cX11_lays 29 = .ok (.if_icmp .ge 19, 3)))) (
   sndC (sd_aload_n (hi := rfl) (hd := (by decide +kernel : decode cX11_lays 32 = .ok (.aload_n 0, 1)))) (
   sndC (sd_get (C := RX11) (T := TX11) (N := 41) (hc := rfl) (hin0 := iX11) (hk := by decide) (hlink := w_1024) (hd := (by decide +kernel : decode cX11_lays 33 = .ok (.getfield 32, 3)))) (
   sndC (sd_iconst (hd := (by decide +kernel : decode cX11_lays 36 = .ok (.iconst 3, 1))) (hv := by decide)) (
   sndC (sd_iload_n (hi := rfl) (hd := (by decide +kernel : decode cX11_lays 37 = .ok (.iload_n 2, 1)))) (
   sndC (sd_imul (hd := (by decide +kernel : decode cX11_lays 38 = .ok (.imul, 1)))) (
   sndC (sd_iload_n (hi := rfl) (hd := (by decide +kernel : decode cX11_lays 39 = .ok (.iload_n 1, 1)))) (
   sndC (sd_iadd (hd := (by decide +kernel : decode cX11_lays 40 = .ok (.iadd, 1)))) (
   sndC (sd_iconst (hd := (by decide +kernel : decode cX11_lays 41 = .ok (.iconst 2, 1))) (hv := by decide)) (
   sndC (sd_isub (hd := (by decide +kernel : decode cX11_lays 42 = .ok (.isub, 1)))) (
   sndC (sd_iload_n (hi := rfl) (hd := (by decide +kernel : decode cX11_lays 43 = .ok (.iload_n 3, 1)))) (
   sndC (sd_iast (hd := (by decide +kernel : decode cX11_lays 44 = .ok (.iastore, 1)))) (
   sndC (sd_goto (ht := by decide) (hd := (by decide +kernel : decode cX11_lays 45 = .ok (.goto 23, 3)))) (
   sndC (sd_iload_n (hi := rfl) (hd := (by decide +kernel : decode cX11_lays 48 = .ok (.iload_n 1, 1)))) (
   sndC (sd_iconst (hd := (by decide +kernel : decode cX11_lays 49 = .ok (.iconst 5, 1))) (hv := by decide)) (
   sndC (sd_cmp_ne (ht := by decide) (hd := (by decide +kernel : decode cX11_lays 50 = .ok (.if_icmp .ne 13, 3)))) (
   sndC (sd_aload_n (hi := rfl) (hd := (by decide +kernel : decode cX11_lays 53 = .ok (.aload_n 0, 1)))) (
   sndC (sd_get (C := RX11) (T := TX11) (N := 41) (hc := rfl) (hin0 := iX11) (hk := by decide) (hlink := w_1023) (hd := (by decide +kernel : decode cX11_lays 54 = .ok (.getfield 29, 3)))) (
   sndC (sd_iload_n (hi := rfl) (hd := (by decide +kernel : decode cX11_lays 57 = .ok (.iload_n 2, 1)))) (
   sndC (sd_iload_n (hi := rfl) (hd := (by decide +kernel : decode cX11_lays 58 = .ok (.iload_n 3, 1)))) (
   sndC (sd_iast (hd := (by decide +kernel : decode cX11_lays 59 = .ok (.iastore, 1)))) (
   sndC (sd_goto (ht := by decide) (hd := (by decide +kernel : decode cX11_lays 60 = .ok (.goto 8, 3)))) (
   sndC (sd_aload_n (hi := rfl) (hd := (by decide +kernel : decode cX11_lays 63 = .ok (.aload_n 0, 1)))) (
   sndC (sd_iload_n (hi := rfl) (hd := (by decide +kernel : decode cX11_lays 64 = .ok (.iload_n 3, 1)))) (
   sndC (sd_putI (C := RX11) (T := TX11) (N := 41) (hc := rfl) (hin0 := iX11) (hk := by decide) (hlink := w_1018) (ty0 := tyX11) (hty := tyX11_ok) (hnm := nmX11) (hfin := rfl) (hi := rfl) (hd := (by decide +kernel : decode cX11_lays 65 = .ok (.putfield 113, 3)))) (
   sndN))))))))))))))))))))))))))))))))))))))))))⟩


set_option maxRecDepth 20000 in
theorem GX11_witness : Good mX11_witness := ⟨by decide +kernel, List.mem_of_getElem? (i := 1388) (by decide +kernel), inX11, ⟨by decide +kernel, by decide +kernel⟩, by decide, show ∀ q ∈ tX11_witness, Snd mX11_witness q.1 q.2 from
  sndC (sd_iload_n (hi := rfl) (hd := (by decide +kernel : decode cX11_witness 0 = .ok (.iload_n 1, 1)))) (
   sndC (sd_i2l (hd := (by decide +kernel : decode cX11_witness 1 = .ok (.i2l, 1)))) (
   sndC (sd_lconst (hd := (by decide +kernel : decode cX11_witness 2 = .ok (.lconst 0, 1))) (hv := by decide)) (
   sndC (sd_ldc2 (hw := w_1154) (hd := (by decide +kernel : decode cX11_witness 3 = .ok (.ldc2_w 86, 3)))) (
   sndC (sd_if_eq (ht := by decide) (hd := (by decide +kernel : decode cX11_witness 9 = .ok (.ifCond .eq 27, 3)))) (
   sndC (sd_iload_n (hi := rfl) (hd := (by decide +kernel : decode cX11_witness 12 = .ok (.iload_n 2, 1)))) (
   sndC (sd_i2l (hd := (by decide +kernel : decode cX11_witness 13 = .ok (.i2l, 1)))) (
   sndC (sd_lconst (hd := (by decide +kernel : decode cX11_witness 14 = .ok (.lconst 0, 1))) (hv := by decide)) (
   sndC (sd_ldc2 (hw := w_1389) (hd := (by decide +kernel : decode cX11_witness 15 = .ok (.ldc2_w 116, 3)))) (
   sndC (sd_if_eq (ht := by decide) (hd := (by decide +kernel : decode cX11_witness 21 = .ok (.ifCond .eq 15, 3)))) (
   sndC (sd_iload_n (hi := rfl) (hd := (by decide +kernel : decode cX11_witness 24 = .ok (.iload_n 3, 1)))) (
   sndC (sd_i2l (hd := (by decide +kernel : decode cX11_witness 25 = .ok (.i2l, 1)))) (
   sndC (sd_lconst (hd := (by decide +kernel : decode cX11_witness 26 = .ok (.lconst 0, 1))) (hv := by decide)) (
   sndC (sd_ldc2 (hw := w_1390) (hd := (by decide +kernel : decode cX11_witness 27 = .ok (.ldc2_w 118, 3)))) (
   sndC (sd_if_ne (ht := by decide) (hd := (by decide +kernel : decode cX11_witness 33 = .ok (.ifCond .ne 6, 3)))) (
   sndC (sd_bipush (hd := (by decide +kernel : decode cX11_witness 36 = .ok (.bipush (-2), 2))) (hv := by decide)) (
   sndC (sd_aload_n (hi := rfl) (hd := (by decide +kernel : decode cX11_witness 39 = .ok (.aload_n 0, 1)))) (
   sndC (sd_get (C := RX11) (T := TX11) (N := 41) (hc := rfl) (hin0 := iX11) (hk := by decide) (hlink := w_1025) (hd := (by decide +kernel : decode cX11_witness 40 = .ok (.getfield 79, 3)))) (
   sndC (sd_bipush (hd := (by decide +kernel : decode cX11_witness 43 = .ok (.bipush 6, 2))) (hv := by decide)) (
   sndC (sd_cmp_ne (ht := by decide) (hd := (by decide +kernel : decode cX11_witness 45 = .ok (.if_icmp .ne 6, 3)))) (
   sndC (sd_bipush (hd := (by decide +kernel : decode cX11_witness 48 = .ok (.bipush (-4), 2))) (hv := by decide)) (
   sndC (sd_aload_n (hi := rfl) (hd := (by decide +kernel : decode cX11_witness 51 = .ok (.aload_n 0, 1)))) (
   sndC (sd_get (C := RX11) (T := TX11) (N := 41) (hc := rfl) (hin0 := iX11) (hk := by decide) (hlink := w_1023) (hd := (by decide +kernel : decode cX11_witness 52 = .ok (.getfield 29, 3)))) (
   sndC (sd_aload_n (hi := rfl) (hd := (by decide +kernel : decode cX11_witness 55 = .ok (.aload_n 0, 1)))) (
   sndC (sd_get (C := RX11) (T := TX11) (N := 41) (hc := rfl) (hin0 := iX11) (hk := by decide) (hlink := w_1025) (hd := (by decide +kernel : decode cX11_witness 56 = .ok (.getfield 79, 3)))) (
   sndC (sd_iload_n (hi := rfl) (hd := (by decide +kernel : decode cX11_witness 59 = .ok (.iload_n 1, 1)))) (
   sndC (sd_iast (hd := (by decide +kernel : decode cX11_witness 60 = .ok (.iastore, 1)))) (
   sndC (sd_aload_n (hi := rfl) (hd := (by decide +kernel : decode cX11_witness 61 = .ok (.aload_n 0, 1)))) (
   sndC (sd_get (C := RX11) (T := TX11) (N := 41) (hc := rfl) (hin0 := iX11) (hk := by decide) (hlink := w_1024) (hd := (by decide +kernel : decode cX11_witness 62 = .ok (.getfield 32, 3)))) (
   sndC (sd_iconst (hd := (by decide +kernel : decode cX11_witness 65 = .ok (.iconst 3, 1))) (hv := by decide)) (
   sndC (sd_aload_n (hi := rfl) (hd := (by decide +kernel : decode cX11_witness 66 = .ok (.aload_n 0, 1)))) (
   sndC (sd_get (C := RX11) (T := TX11) (N := 41) (hc := rfl) (hin0 := iX11) (hk := by decide) (hlink := w_1025) (hd := (by decide +kernel : decode cX11_witness 67 = .ok (.getfield 79, 3)))) (
   sndC (sd_imul (hd := (by decide +kernel : decode cX11_witness 70 = .ok (.imul, 1)))) (
   sndC (sd_iload_n (hi := rfl) (hd := (by decide +kernel : decode cX11_witness 71 = .ok (.iload_n 2, 1)))) (
   sndC (sd_iast (hd := (by decide +kernel : decode cX11_witness 72 = .ok (.iastore, 1)))) (
   sndC (sd_aload_n (hi := rfl) (hd := (by decide +kernel : decode cX11_witness 73 = .ok (.aload_n 0, 1)))) (
   sndC (sd_get (C := RX11) (T := TX11) (N := 41) (hc := rfl) (hin0 := iX11) (hk := by decide) (hlink := w_1024) (hd := (by decide +kernel : decode cX11_witness 74 = .ok (.getfield 32, 3)))) (
   sndC (sd_iconst (hd := (by decide +kernel : decode cX11_witness 77 = .ok (.iconst 3, 1))) (hv := by decide)) (
   sndC (sd_aload_n (hi := rfl) (hd := (by decide +kernel : decode cX11_witness 78 = .ok (.aload_n 0, 1)))) (
   sndC (sd_get (C := RX11) (T := TX11) (N := 41) (hc := rfl) (hin0 := iX11) (hk := by decide) (hlink := w_1025) (hd := (by decide +kernel : decode cX11_witness 79 = .ok (.getfield 79, 3)))) (
   sndC (sd_imul (hd := (by decide +kernel : decode cX11_witness 82 = .ok (.imul, 1)))) (
   sndC (sd_iconst (hd := (by decide +kernel : decode cX11_witness 83 = .ok (.iconst 1, 1))) (hv := by decide)) (
   sndC (sd_iadd (hd := (by decide +kernel : decode cX11_witness 84 = .ok (.iadd, 1)))) (
   sndC (sd_iload_n (hi := rfl) (hd := (by decide +kernel : decode cX11_witness 85 = .ok (.iload_n 3, 1)))) (
   sndC (sd_iast (hd := (by decide +kernel : decode cX11_witness 86 = .ok (.iastore, 1)))) (
   sndC (sd_aload_n (hi := rfl) (hd := (by decide +kernel : decode cX11_witness 87 = .ok (.aload_n 0, 1)))) (
   sndC (sd_get (C := RX11) (T := TX11) (N := 41) (hc := rfl) (hin0 := iX11) (hk := by decide) (hlink := w_1024) (hd := (by decide +kernel : decode cX11_witness 88 = .ok (.getfield 32, 3)))) (
   sndC (sd_iconst (hd := (by decide +kernel : decode cX11_witness 91 = .ok (.iconst 3, 1))) (hv := by decide)) (
   sndC (sd_aload_n (hi := rfl) (hd := (by decide +kernel : decode cX11_witness 92 = .ok (.aload_n 0, 1)))) (
   sndC (sd_get (C := RX11) (T := TX11) (N := 41) (hc := rfl) (hin0 := iX11) (hk := by decide) (hlink := w_1025) (hd := (by decide +kernel : decode cX11_witness 93 = .ok (.getfield 79, 3)))) (
   sndC (sd_imul (hd := (by decide +kernel : decode cX11_witness 96 = .ok (.imul, 1)))) (
   sndC (sd_iconst (hd := (by decide +kernel : decode cX11_witness 97 = .ok (.iconst 2, 1))) (hv := by decide)) (
   sndC (sd_iadd (hd := (by decide +kernel : decode cX11_witness 98 = .ok (.iadd, 1)))) (
   sndC (sd_iconst (hd := (by decide +kernel : decode cX11_witness 99 = .ok (.iconst 0, 1))) (hv := by decide)) (
   sndC (sd_iast (hd := (by decide +kernel : decode cX11_witness 100 = .ok (.iastore, 1)))) (
   sndC (sd_aload_n (hi := rfl) (hd := (by decide +kernel : decode cX11_witness 101 = .ok (.aload_n 0, 1)))) (
   sndC (sd_dup (hd := (by decide +kernel : decode cX11_witness 102 = .ok (.dup, 1)))) (
   sndC (sd_get (C := RX11) (T := TX11) (N := 41) (hc := rfl) (hin0 := iX11) (hk := by decide) (hlink := w_1025) (hd := (by decide +kernel : decode cX11_witness 103 = .ok (.getfield 79, 3)))) (
   sndC (sd_iconst (hd := (by decide +kernel : decode cX11_witness 106 = .ok (.iconst 1, 1))) (hv := by decide)) (
   sndC (sd_iadd (hd := (by decide +kernel : decode cX11_witness 107 = .ok (.iadd, 1)))) (
   sndC (sd_putI (C := RX11) (T := TX11) (N := 41) (hc := rfl) (hin0 := iX11) (hk := by decide) (hlink := w_1025) (ty0 := tyX11) (hty := tyX11_ok) (hnm := nmX11) (hfin := rfl) (hi := rfl) (hd := (by decide +kernel : decode cX11_witness 108 = .ok (.putfield 79, 3)))) (
   sndC (sd_aload_n (hi := rfl) (hd := (by decide +kernel : decode cX11_witness 111 = .ok (.aload_n 0, 1)))) (
   sndC (sd_get (C := RX11) (T := TX11) (N := 41) (hc := rfl) (hin0 := iX11) (hk := by decide) (hlink := w_1025) (hd := (by decide +kernel : decode cX11_witness 112 = .ok (.getfield 79, 3)))) (
   sndC (sd_iconst (hd := (by decide +kernel : decode cX11_witness 115 = .ok (.iconst 1, 1))) (hv := by decide)) (
   sndC (sd_isub (hd := (by decide +kernel : decode cX11_witness 116 = .ok (.isub, 1)))) (
   sndN)))))))))))))))))))))))))))))))))))))))))))))))))))))))))))))))))⟩
theorem kX11_witness_6 : CallAt mX11_witness 6 1 mX11_in 3 := ⟨by decide +kernel, ⟨_, (by decide +kernel : decode cX11_witness 6 = .ok (.invokestatic 82, 3)), w_1144, w_1145⟩⟩
theorem kX11_witness_18 : CallAt mX11_witness 18 1 mX11_in 3 := ⟨by decide +kernel, ⟨_, (by decide +kernel : decode cX11_witness 18 = .ok (.invokestatic 82, 3)), w_1144, w_1145⟩⟩
theorem kX11_witness_30 : CallAt mX11_witness 30 1 mX11_in 3 := ⟨by decide +kernel, ⟨_, (by decide +kernel : decode cX11_witness 30 = .ok (.invokestatic 82, 3)), w_1144, w_1145⟩⟩

set_option maxRecDepth 20000 in
theorem GX11_told : Good mX11_told := ⟨by decide +kernel, List.mem_of_getElem? (i := 1165) (by decide +kernel), inX11, ⟨by decide +kernel, by decide +kernel⟩, by decide, show ∀ q ∈ tX11_told, Snd mX11_told q.1 q.2 from
  sndC (sd_iload_n (hi := rfl) (hd := (by decide +kernel : decode cX11_told 0 = .ok (.iload_n 2, 1)))) (
   sndC (sd_i2l (hd := (by decide +kernel : decode cX11_told 1 = .ok (.i2l, 1)))) (
   sndC (sd_lconst (hd := (by decide +kernel : decode cX11_told 2 = .ok (.lconst 0, 1))) (hv := by decide)) (
   sndC (sd_ldc2 (hw := w_1166) (hd := (by decide +kernel : decode cX11_told 3 = .ok (.ldc2_w 120, 3)))) (
   sndC (sd_if_ne (ht := by decide) (hd := (by decide +kernel : decode cX11_told 9 = .ok (.ifCond .ne 17, 3)))) (
   sndC (sd_iload_n (hi := rfl) (hd := (by decide +kernel : decode cX11_told 12 = .ok (.iload_n 2, 1)))) (
   sndC (sd_i2l (hd := (by decide +kernel : decode cX11_told 13 = .ok (.i2l, 1)))) (
   sndC (sd_ldc2 (hw := w_1167) (hd := (by decide +kernel : decode cX11_told 14 = .ok (.ldc2_w 122, 3)))) (
   sndC (sd_ldc2 (hw := w_1168) (hd := (by decide +kernel : decode cX11_told 17 = .ok (.ldc2_w 124, 3)))) (
   sndC (sd_if_eq (ht := by decide) (hd := (by decide +kernel : decode cX11_told 23 = .ok (.ifCond .eq 12, 3)))) (
   sndC (sd_aload_n (hi := rfl) (hd := (by decide +kernel : decode cX11_told 26 = .ok (.aload_n 0, 1)))) (
   sndC (sd_iload_n (hi := rfl) (hd := (by decide +kernel : decode cX11_told 27 = .ok (.iload_n 2, 1)))) (
   sndC (sd_iload_n (hi := rfl) (hd := (by decide +kernel : decode cX11_told 28 = .ok (.iload_n 1, 1)))) (
   sndC (sd_if_ne (ht := by decide) (hd := (by decide +kernel : decode cX11_told 32 = .ok (.ifCond .ne 6, 3)))) (
   sndC (sd_bipush (hd := (by decide +kernel : decode cX11_told 35 = .ok (.bipush (-2), 2))) (hv := by decide)) (
   sndC (sd_iload_n (hi := rfl) (hd := (by decide +kernel : decode cX11_told 38 = .ok (.iload_n 2, 1)))) (
   sndC (sd_bipush (hd := (by decide +kernel : decode cX11_told 39 = .ok (.bipush 9, 2))) (hv := by decide)) (
   sndC (sd_cmp_le (ht := by decide) (hd := (by decide +kernel : decode cX11_told 41 = .ok (.if_icmp .le 13, 3)))) (
   sndC (sd_aload_n (hi := rfl) (hd := (by decide +kernel : decode cX11_told 44 = .ok (.aload_n 0, 1)))) (
   sndC (sd_iload_n (hi := rfl) (hd := (by decide +kernel : decode cX11_told 45 = .ok (.iload_n 1, 1)))) (
   sndC (sd_iload_n (hi := rfl) (hd := (by decide +kernel : decode cX11_told 46 = .ok (.iload_n 2, 1)))) (
   sndC (sd_bipush (hd := (by decide +kernel : decode cX11_told 47 = .ok (.bipush 10, 2))) (hv := by decide)) (
   sndC (sd_isub (hd := (by decide +kernel : decode cX11_told 49 = .ok (.isub, 1)))) (
   sndC (sd_iload_n (hi := rfl) (hd := (by decide +kernel : decode cX11_told 54 = .ok (.iload_n 2, 1)))) (
   sndC (sd_iconst (hd := (by decide +kernel : decode cX11_told 55 = .ok (.iconst 2, 1))) (hv := by decide)) (
   sndC (sd_cmp_ge (ht := by decide) (hd := (by decide +kernel : decode cX11_told 56 = .ok (.if_icmp .ge 21, 3)))) (
   sndC (sd_iload_n (hi := rfl) (hd := (by decide +kernel : decode cX11_told 59 = .ok (.iload_n 2, 1)))) (
   sndC (sd_if_ne (ht := by decide) (hd := (by decide +kernel : decode cX11_told 60 = .ok (.ifCond .ne 10, 3)))) (
   sndC (sd_aload_n (hi := rfl) (hd := (by decide +kernel : decode cX11_told 63 = .ok (.aload_n 0, 1)))) (
   sndC (sd_get (C := RX11) (T := TX11) (N := 41) (hc := rfl) (hin0 := iX11) (hk := by decide) (hlink := w_1021) (hd := (by decide +kernel : decode cX11_told 64 = .ok (.getfield 23, 3)))) (
   sndC (sd_goto (ht := by decide) (hd := (by decide +kernel : decode cX11_told 67 = .ok (.goto 9, 3)))) (
   sndC (sd_aload_n (hi := rfl) (hd := (by decide +kernel : decode cX11_told 70 = .ok (.aload_n 0, 1)))) (
   sndC (sd_get (C := RX11) (T := TX11) (N := 41) (hc := rfl) (hin0 := iX11) (hk := by decide) (hlink := w_1022) (hd := (by decide +kernel : decode cX11_told 71 = .ok (.getfield 26, 3)))) (
   sndC (sd_iload_n (hi := rfl) (hd := (by decide +kernel : decode cX11_told 74 = .ok (.iload_n 1, 1)))) (
   sndC (sd_iald (hd := (by decide +kernel : decode cX11_told 75 = .ok (.iaload, 1)))) (
   sndC (sd_iload_n (hi := rfl) (hd := (by decide +kernel : decode cX11_told 77 = .ok (.iload_n 2, 1)))) (
   sndC (sd_iconst (hd := (by decide +kernel : decode cX11_told 78 = .ok (.iconst 5, 1))) (hv := by decide)) (
   sndC (sd_cmp_ge (ht := by decide) (hd := (by decide +kernel : decode cX11_told 79 = .ok (.if_icmp .ge 18, 3)))) (
   sndC (sd_aload_n (hi := rfl) (hd := (by decide +kernel : decode cX11_told 82 = .ok (.aload_n 0, 1)))) (
   sndC (sd_get (C := RX11) (T := TX11) (N := 41) (hc := rfl) (hin0 := iX11) (hk := by decide) (hlink := w_1024) (hd := (by decide +kernel : decode cX11_told 83 = .ok (.getfield 32, 3)))) (
   sndC (sd_iconst (hd := (by decide +kernel : decode cX11_told 86 = .ok (.iconst 3, 1))) (hv := by decide)) (
   sndC (sd_iload_n (hi := rfl) (hd := (by decide +kernel : decode cX11_told 87 = .ok (.iload_n 1, 1)))) (
   sndC (sd_imul (hd := (by decide +kernel : decode cX11_told 88 = .ok (.imul, 1)))) (
   sndC (sd_iload_n (hi := rfl) (hd := (by decide +kernel : decode cX11_told 89 = .ok (.iload_n 2, 1)))) (
   sndC (sd_iadd (hd := (by decide +kernel : decode cX11_told 90 = .ok (.iadd, 1)))) (
   sndC (sd_iconst (hd := (by decide +kernel : decode cX11_told 91 = .ok (.iconst 2, 1))) (hv := by decide)) (
   sndC (sd_isub (hd := (by decide +kernel : decode cX11_told 92 = .ok (.isub, 1)))) (
   sndC (sd_iald (hd := (by decide +kernel : decode cX11_told 93 = .ok (.iaload, 1)))) (
   sndC (sd_goto (ht := by decide) (hd := (by decide +kernel : decode cX11_told 94 = .ok (.goto 22, 3)))) (
   sndC (sd_iload_n (hi := rfl) (hd := (by decide +kernel : decode cX11_told 97 = .ok (.iload_n 2, 1)))) (
   sndC (sd_iconst (hd := (by decide +kernel : decode cX11_told 98 = .ok (.iconst 5, 1))) (hv := by decide)) (
   sndC (sd_cmp_ne (ht := by decide) (hd := (by decide +kernel : decode cX11_told 99 = .ok (.if_icmp .ne 12, 3)))) (
   sndC (sd_aload_n (hi := rfl) (hd := (by decide +kernel : decode cX11_told 102 = .ok (.aload_n 0, 1)))) (
   sndC (sd_get (C := RX11) (T := TX11) (N := 41) (hc := rfl) (hin0 := iX11) (hk := by decide) (hlink := w_1023) (hd := (by decide +kernel : decode cX11_told 103 = .ok (.getfield 29, 3)))) (
   sndC (sd_iload_n (hi := rfl) (hd := (by decide +kernel : decode cX11_told 106 = .ok (.iload_n 1, 1)))) (
   sndC (sd_iald (hd := (by decide +kernel : decode cX11_told 107 = .ok (.iaload, 1)))) (
   sndC (sd_goto (ht := by decide) (hd := (by decide +kernel : decode cX11_told 108 = .ok (.goto 8, 3)))) (
   sndC (sd_aload_n (hi := rfl) (hd := (by decide +kernel : decode cX11_told 111 = .ok (.aload_n 0, 1)))) (
   sndC (sd_iload_n (hi := rfl) (hd := (by decide +kernel : decode cX11_told 112 = .ok (.iload_n 1, 1)))) (
   sndN)))))))))))))))))))))))))))))))))))))))))))))))))))))))))))⟩
theorem kX11_told_6 : CallAt mX11_told 6 1 mX11_in 3 := ⟨by decide +kernel, ⟨_, (by decide +kernel : decode cX11_told 6 = .ok (.invokestatic 82, 3)), w_1144, w_1145⟩⟩
theorem kX11_told_20 : CallAt mX11_told 20 1 mX11_in 3 := ⟨by decide +kernel, ⟨_, (by decide +kernel : decode cX11_told 20 = .ok (.invokestatic 82, 3)), w_1144, w_1145⟩⟩
theorem kX11_told_29 : CallAt mX11_told 29 0 mX11_isOf 2 := ⟨by decide +kernel, ⟨_, (by decide +kernel : decode cX11_told 29 = .ok (.invokevirtual 97, 3)), w_1147, w_1149, w_47⟩⟩
theorem kX11_told_50 : CallAt mX11_told 50 0 mX11_saysNow 2 := ⟨by decide +kernel, ⟨_, (by decide +kernel : decode cX11_told 50 = .ok (.invokevirtual 126, 3)), w_1169, w_1171, w_49⟩⟩
theorem kX11_told_113 : CallAt mX11_told 113 0 mX11_costsOf 1 := ⟨by decide +kernel, ⟨_, (by decide +kernel : decode cX11_told 113 = .ok (.invokevirtual 129, 3)), w_1377, w_1379, w_98⟩⟩

set_option maxRecDepth 20000 in
theorem GX11_feed : Good mX11_feed := ⟨by decide +kernel, List.mem_of_getElem? (i := 1395) (by decide +kernel), inX11, ⟨by decide +kernel, by decide +kernel⟩, by decide, show ∀ q ∈ tX11_feed, Snd mX11_feed q.1 q.2 from
  sndC (sd_iload_n (hi := rfl) (hd := (by decide +kernel : decode cX11_feed 0 = .ok (.iload_n 1, 1)))) (
   sndC (sd_i2l (hd := (by decide +kernel : decode cX11_feed 1 = .ok (.i2l, 1)))) (
   sndC (sd_lconst (hd := (by decide +kernel : decode cX11_feed 2 = .ok (.lconst 0, 1))) (hv := by decide)) (
   sndC (sd_ldc2 (hw := w_1396) (hd := (by decide +kernel : decode cX11_feed 3 = .ok (.ldc2_w 132, 3)))) (
   sndC (sd_if_ne (ht := by decide) (hd := (by decide +kernel : decode cX11_feed 9 = .ok (.ifCond .ne 6, 3)))) (
   sndC (sd_bipush (hd := (by decide +kernel : decode cX11_feed 12 = .ok (.bipush (-2), 2))) (hv := by decide)) (
   sndC (sd_aload_n (hi := rfl) (hd := (by decide +kernel : decode cX11_feed 15 = .ok (.aload_n 0, 1)))) (
   sndC (sd_get (C := RX11) (T := TX11) (N := 41) (hc := rfl) (hin0 := iX11) (hk := by decide) (hlink := w_1020) (hd := (by decide +kernel : decode cX11_feed 16 = .ok (.getfield 134, 3)))) (
   sndC (sd_sipush (hd := (by decide +kernel : decode cX11_feed 19 = .ok (.sipush 160, 3))) (hv := by decide)) (
   sndC (sd_cmp_ne (ht := by decide) (hd := (by decide +kernel : decode cX11_feed 22 = .ok (.if_icmp .ne 6, 3)))) (
   sndC (sd_bipush (hd := (by decide +kernel : decode cX11_feed 25 = .ok (.bipush (-4), 2))) (hv := by decide)) (
   sndC (sd_aload_n (hi := rfl) (hd := (by decide +kernel : decode cX11_feed 28 = .ok (.aload_n 0, 1)))) (
   sndC (sd_get (C := RX11) (T := TX11) (N := 41) (hc := rfl) (hin0 := iX11) (hk := by decide) (hlink := w_1019) (hd := (by decide +kernel : decode cX11_feed 29 = .ok (.getfield 20, 3)))) (
   sndC (sd_aload_n (hi := rfl) (hd := (by decide +kernel : decode cX11_feed 32 = .ok (.aload_n 0, 1)))) (
   sndC (sd_get (C := RX11) (T := TX11) (N := 41) (hc := rfl) (hin0 := iX11) (hk := by decide) (hlink := w_1020) (hd := (by decide +kernel : decode cX11_feed 33 = .ok (.getfield 134, 3)))) (
   sndC (sd_iload_n (hi := rfl) (hd := (by decide +kernel : decode cX11_feed 36 = .ok (.iload_n 1, 1)))) (
   sndC (sd_iast (hd := (by decide +kernel : decode cX11_feed 37 = .ok (.iastore, 1)))) (
   sndC (sd_aload_n (hi := rfl) (hd := (by decide +kernel : decode cX11_feed 38 = .ok (.aload_n 0, 1)))) (
   sndC (sd_dup (hd := (by decide +kernel : decode cX11_feed 39 = .ok (.dup, 1)))) (
   sndC (sd_get (C := RX11) (T := TX11) (N := 41) (hc := rfl) (hin0 := iX11) (hk := by decide) (hlink := w_1020) (hd := (by decide +kernel : decode cX11_feed 40 = .ok (.getfield 134, 3)))) (
   sndC (sd_iconst (hd := (by decide +kernel : decode cX11_feed 43 = .ok (.iconst 1, 1))) (hv := by decide)) (
   sndC (sd_iadd (hd := (by decide +kernel : decode cX11_feed 44 = .ok (.iadd, 1)))) (
   sndC (sd_putI (C := RX11) (T := TX11) (N := 41) (hc := rfl) (hin0 := iX11) (hk := by decide) (hlink := w_1020) (ty0 := tyX11) (hty := tyX11_ok) (hnm := nmX11) (hfin := rfl) (hi := rfl) (hd := (by decide +kernel : decode cX11_feed 45 = .ok (.putfield 134, 3)))) (
   sndC (sd_aload_n (hi := rfl) (hd := (by decide +kernel : decode cX11_feed 48 = .ok (.aload_n 0, 1)))) (
   sndC (sd_get (C := RX11) (T := TX11) (N := 41) (hc := rfl) (hin0 := iX11) (hk := by decide) (hlink := w_1020) (hd := (by decide +kernel : decode cX11_feed 49 = .ok (.getfield 134, 3)))) (
   sndN)))))))))))))))))))))))))⟩
theorem kX11_feed_6 : CallAt mX11_feed 6 1 mX11_in 3 := ⟨by decide +kernel, ⟨_, (by decide +kernel : decode cX11_feed 6 = .ok (.invokestatic 82, 3)), w_1144, w_1145⟩⟩

set_option maxRecDepth 20000 in
theorem GX11_byteAt : Good mX11_byteAt := ⟨by decide +kernel, List.mem_of_getElem? (i := 1195) (by decide +kernel), inX11, ⟨by decide +kernel, by decide +kernel⟩, by decide, show ∀ q ∈ tX11_byteAt, Snd mX11_byteAt q.1 q.2 from
  sndC (sd_iload_n (hi := rfl) (hd := (by decide +kernel : decode cX11_byteAt 0 = .ok (.iload_n 1, 1)))) (
   sndC (sd_aload_n (hi := rfl) (hd := (by decide +kernel : decode cX11_byteAt 1 = .ok (.aload_n 0, 1)))) (
   sndC (sd_get (C := RX11) (T := TX11) (N := 41) (hc := rfl) (hin0 := iX11) (hk := by decide) (hlink := w_1033) (hd := (by decide +kernel : decode cX11_byteAt 2 = .ok (.getfield 137, 3)))) (
   sndC (sd_cmp_ge (ht := by decide) (hd := (by decide +kernel : decode cX11_byteAt 5 = .ok (.if_icmp .ge 17, 3)))) (
   sndC (sd_aload_n (hi := rfl) (hd := (by decide +kernel : decode cX11_byteAt 8 = .ok (.aload_n 0, 1)))) (
   sndC (sd_get (C := RX11) (T := TX11) (N := 41) (hc := rfl) (hin0 := iX11) (hk := by decide) (hlink := w_1015) (hd := (by decide +kernel : decode cX11_byteAt 9 = .ok (.getfield 13, 3)))) (
   sndC (sd_aload_n (hi := rfl) (hd := (by decide +kernel : decode cX11_byteAt 12 = .ok (.aload_n 0, 1)))) (
   sndC (sd_get (C := RX11) (T := TX11) (N := 41) (hc := rfl) (hin0 := iX11) (hk := by decide) (hlink := w_1032) (hd := (by decide +kernel : decode cX11_byteAt 13 = .ok (.getfield 140, 3)))) (
   sndC (sd_iload_n (hi := rfl) (hd := (by decide +kernel : decode cX11_byteAt 16 = .ok (.iload_n 1, 1)))) (
   sndC (sd_iadd (hd := (by decide +kernel : decode cX11_byteAt 17 = .ok (.iadd, 1)))) (
   sndC (sd_iald (hd := (by decide +kernel : decode cX11_byteAt 18 = .ok (.iaload, 1)))) (
   sndC (sd_goto (ht := by decide) (hd := (by decide +kernel : decode cX11_byteAt 19 = .ok (.goto 4, 3)))) (
   sndC (sd_iconst (hd := (by decide +kernel : decode cX11_byteAt 22 = .ok (.iconst (-1), 1))) (hv := by decide)) (
   sndN)))))))))))))⟩


set_option maxRecDepth 20000 in
theorem GX11_nextToken : Good mX11_nextToken := ⟨by decide +kernel, List.mem_of_getElem? (i := 1191) (by decide +kernel), inX11, ⟨by decide +kernel, by decide +kernel⟩, by decide, show ∀ q ∈ tX11_nextToken, Snd mX11_nextToken q.1 q.2 from
  sndC (sd_aload_n (hi := rfl) (hd := (by decide +kernel : decode cX11_nextToken 0 = .ok (.aload_n 0, 1)))) (
   sndC (sd_aload_n (hi := rfl) (hd := (by decide +kernel : decode cX11_nextToken 1 = .ok (.aload_n 0, 1)))) (
   sndC (sd_get (C := RX11) (T := TX11) (N := 41) (hc := rfl) (hin0 := iX11) (hk := by decide) (hlink := w_1034) (hd := (by decide +kernel : decode cX11_nextToken 2 = .ok (.getfield 143, 3)))) (
   sndC (sd_bipush (hd := (by decide +kernel : decode cX11_nextToken 8 = .ok (.bipush 32, 2))) (hv := by decide)) (
   sndC (sd_cmp_eq (ht := by decide) (hd := (by decide +kernel : decode cX11_nextToken 10 = .ok (.if_icmp .eq 16, 3)))) (
   sndC (sd_aload_n (hi := rfl) (hd := (by decide +kernel : decode cX11_nextToken 13 = .ok (.aload_n 0, 1)))) (
   sndC (sd_aload_n (hi := rfl) (hd := (by decide +kernel : decode cX11_nextToken 14 = .ok (.aload_n 0, 1)))) (
   sndC (sd_get (C := RX11) (T := TX11) (N := 41) (hc := rfl) (hin0 := iX11) (hk := by decide) (hlink := w_1034) (hd := (by decide +kernel : decode cX11_nextToken 15 = .ok (.getfield 143, 3)))) (
   sndC (sd_bipush (hd := (by decide +kernel : decode cX11_nextToken 21 = .ok (.bipush 10, 2))) (hv := by decide)) (
   sndC (sd_cmp_ne (ht := by decide) (hd := (by decide +kernel : decode cX11_nextToken 23 = .ok (.if_icmp .ne 16, 3)))) (
   sndC (sd_aload_n (hi := rfl) (hd := (by decide +kernel : decode cX11_nextToken 26 = .ok (.aload_n 0, 1)))) (
   sndC (sd_dup (hd := (by decide +kernel : decode cX11_nextToken 27 = .ok (.dup, 1)))) (
   sndC (sd_get (C := RX11) (T := TX11) (N := 41) (hc := rfl) (hin0 := iX11) (hk := by decide) (hlink := w_1034) (hd := (by decide +kernel : decode cX11_nextToken 28 = .ok (.getfield 143, 3)))) (
   sndC (sd_iconst (hd := (by decide +kernel : decode cX11_nextToken 31 = .ok (.iconst 1, 1))) (hv := by decide)) (
   sndC (sd_iadd (hd := (by decide +kernel : decode cX11_nextToken 32 = .ok (.iadd, 1)))) (
   sndC (sd_putI (C := RX11) (T := TX11) (N := 41) (hc := rfl) (hin0 := iX11) (hk := by decide) (hlink := w_1034) (ty0 := tyX11) (hty := tyX11_ok) (hnm := nmX11) (hfin := rfl) (hi := rfl) (hd := (by decide +kernel : decode cX11_nextToken 33 = .ok (.putfield 143, 3)))) (
   sndC (sd_goto (ht := by decide) (hd := (by decide +kernel : decode cX11_nextToken 36 = .ok (.goto (-36), 3)))) (
   sndC (sd_aload_n (hi := rfl) (hd := (by decide +kernel : decode cX11_nextToken 39 = .ok (.aload_n 0, 1)))) (
   sndC (sd_aload_n (hi := rfl) (hd := (by decide +kernel : decode cX11_nextToken 40 = .ok (.aload_n 0, 1)))) (
   sndC (sd_get (C := RX11) (T := TX11) (N := 41) (hc := rfl) (hin0 := iX11) (hk := by decide) (hlink := w_1034) (hd := (by decide +kernel : decode cX11_nextToken 41 = .ok (.getfield 143, 3)))) (
   sndC (sd_putI (C := RX11) (T := TX11) (N := 41) (hc := rfl) (hin0 := iX11) (hk := by decide) (hlink := w_1036) (ty0 := tyX11) (hty := tyX11_ok) (hnm := nmX11) (hfin := rfl) (hi := rfl) (hd := (by decide +kernel : decode cX11_nextToken 44 = .ok (.putfield 149, 3)))) (
   sndC (sd_aload_n (hi := rfl) (hd := (by decide +kernel : decode cX11_nextToken 47 = .ok (.aload_n 0, 1)))) (
   sndC (sd_aload_n (hi := rfl) (hd := (by decide +kernel : decode cX11_nextToken 48 = .ok (.aload_n 0, 1)))) (
   sndC (sd_get (C := RX11) (T := TX11) (N := 41) (hc := rfl) (hin0 := iX11) (hk := by decide) (hlink := w_1034) (hd := (by decide +kernel : decode cX11_nextToken 49 = .ok (.getfield 143, 3)))) (
   sndC (sd_istore_n (hi := rfl) (hd := (by decide +kernel : decode cX11_nextToken 55 = .ok (.istore_n 1, 1)))) (
   sndC (sd_aload_n (hi := rfl) (hd := (by decide +kernel : decode cX11_nextToken 56 = .ok (.aload_n 0, 1)))) (
   sndC (sd_iconst (hd := (by decide +kernel : decode cX11_nextToken 57 = .ok (.iconst 4, 1))) (hv := by decide)) (
   sndC (sd_putI (C := RX11) (T := TX11) (N := 41) (hc := rfl) (hin0 := iX11) (hk := by decide) (hlink := w_1035) (ty0 := tyX11) (hty := tyX11_ok) (hnm := nmX11) (hfin := rfl) (hi := rfl) (hd := (by decide +kernel : decode cX11_nextToken 58 = .ok (.putfield 152, 3)))) (
   sndC (sd_iload_n (hi := rfl) (hd := (by decide +kernel : decode cX11_nextToken 61 = .ok (.iload_n 1, 1)))) (
   sndC (sd_if_ge (ht := by decide) (hd := (by decide +kernel : decode cX11_nextToken 62 = .ok (.ifCond .ge 19, 3)))) (
   sndC (sd_aload_n (hi := rfl) (hd := (by decide +kernel : decode cX11_nextToken 65 = .ok (.aload_n 0, 1)))) (
   sndC (sd_iconst (hd := (by decide +kernel : decode cX11_nextToken 66 = .ok (.iconst 0, 1))) (hv := by decide)) (
   sndC (sd_putI (C := RX11) (T := TX11) (N := 41) (hc := rfl) (hin0 := iX11) (hk := by decide) (hlink := w_1035) (ty0 := tyX11) (hty := tyX11_ok) (hnm := nmX11) (hfin := rfl) (hi := rfl) (hd := (by decide +kernel : decode cX11_nextToken 67 = .ok (.putfield 152, 3)))) (
   sndC (sd_aload_n (hi := rfl) (hd := (by decide +kernel : decode cX11_nextToken 70 = .ok (.aload_n 0, 1)))) (
   sndC (sd_aload_n (hi := rfl) (hd := (by decide +kernel : decode cX11_nextToken 71 = .ok (.aload_n 0, 1)))) (
   sndC (sd_get (C := RX11) (T := TX11) (N := 41) (hc := rfl) (hin0 := iX11) (hk := by decide) (hlink := w_1033) (hd := (by decide +kernel : decode cX11_nextToken 72 = .ok (.getfield 137, 3)))) (
   sndC (sd_putI (C := RX11) (T := TX11) (N := 41) (hc := rfl) (hin0 := iX11) (hk := by decide) (hlink := w_1036) (ty0 := tyX11) (hty := tyX11_ok) (hnm := nmX11) (hfin := rfl) (hi := rfl) (hd := (by decide +kernel : decode cX11_nextToken 75 = .ok (.putfield 149, 3)))) (
   sndC (sd_goto (ht := by decide) (hd := (by decide +kernel : decode cX11_nextToken 78 = .ok (.goto 243, 3)))) (
   sndC (sd_iload_n (hi := rfl) (hd := (by decide +kernel : decode cX11_nextToken 81 = .ok (.iload_n 1, 1)))) (
   sndC (sd_i2l (hd := (by decide +kernel : decode cX11_nextToken 82 = .ok (.i2l, 1)))) (
   sndC (sd_ldc2 (hw := w_1196) (hd := (by decide +kernel : decode cX11_nextToken 83 = .ok (.ldc2_w 155, 3)))) (
   sndC (sd_ldc2 (hw := w_1197) (hd := (by decide +kernel : decode cX11_nextToken 86 = .ok (.ldc2_w 157, 3)))) (
   sndC (sd_if_eq (ht := by decide) (hd := (by decide +kernel : decode cX11_nextToken 92 = .ok (.ifCond .eq 42, 3)))) (
   sndC (sd_aload_n (hi := rfl) (hd := (by decide +kernel : decode cX11_nextToken 95 = .ok (.aload_n 0, 1)))) (
   sndC (sd_iconst (hd := (by decide +kernel : decode cX11_nextToken 96 = .ok (.iconst 1, 1))) (hv := by decide)) (
   sndC (sd_putI (C := RX11) (T := TX11) (N := 41) (hc := rfl) (hin0 := iX11) (hk := by decide) (hlink := w_1035) (ty0 := tyX11) (hty := tyX11_ok) (hnm := nmX11) (hfin := rfl) (hi := rfl) (hd := (by decide +kernel : decode cX11_nextToken 97 = .ok (.putfield 152, 3)))) (
   sndC (sd_aload_n (hi := rfl) (hd := (by decide +kernel : decode cX11_nextToken 100 = .ok (.aload_n 0, 1)))) (
   sndC (sd_aload_n (hi := rfl) (hd := (by decide +kernel : decode cX11_nextToken 101 = .ok (.aload_n 0, 1)))) (
   sndC (sd_get (C := RX11) (T := TX11) (N := 41) (hc := rfl) (hin0 := iX11) (hk := by decide) (hlink := w_1034) (hd := (by decide +kernel : decode cX11_nextToken 102 = .ok (.getfield 143, 3)))) (
   sndC (sd_i2l (hd := (by decide +kernel : decode cX11_nextToken 108 = .ok (.i2l, 1)))) (
   sndC (sd_ldc2 (hw := w_1196) (hd := (by decide +kernel : decode cX11_nextToken 109 = .ok (.ldc2_w 155, 3)))) (
   sndC (sd_ldc2 (hw := w_1197) (hd := (by decide +kernel : decode cX11_nextToken 112 = .ok (.ldc2_w 157, 3)))) (
   sndC (sd_if_eq (ht := by decide) (hd := (by decide +kernel : decode cX11_nextToken 118 = .ok (.ifCond .eq 203, 3)))) (
   sndC (sd_aload_n (hi := rfl) (hd := (by decide +kernel : decode cX11_nextToken 121 = .ok (.aload_n 0, 1)))) (
   sndC (sd_dup (hd := (by decide +kernel : decode cX11_nextToken 122 = .ok (.dup, 1)))) (
   sndC (sd_get (C := RX11) (T := TX11) (N := 41) (hc := rfl) (hin0 := iX11) (hk := by decide) (hlink := w_1034) (hd := (by decide +kernel : decode cX11_nextToken 123 = .ok (.getfield 143, 3)))) (
   sndC (sd_iconst (hd := (by decide +kernel : decode cX11_nextToken 126 = .ok (.iconst 1, 1))) (hv := by decide)) (
   sndC (sd_iadd (hd := (by decide +kernel : decode cX11_nextToken 127 = .ok (.iadd, 1)))) (
   sndC (sd_putI (C := RX11) (T := TX11) (N := 41) (hc := rfl) (hin0 := iX11) (hk := by decide) (hlink := w_1034) (ty0 := tyX11) (hty := tyX11_ok) (hnm := nmX11) (hfin := rfl) (hi := rfl) (hd := (by decide +kernel : decode cX11_nextToken 128 = .ok (.putfield 143, 3)))) (
   sndC (sd_goto (ht := by decide) (hd := (by decide +kernel : decode cX11_nextToken 131 = .ok (.goto (-31), 3)))) (
   sndC (sd_iload_n (hi := rfl) (hd := (by decide +kernel : decode cX11_nextToken 134 = .ok (.iload_n 1, 1)))) (
   sndC (sd_i2l (hd := (by decide +kernel : decode cX11_nextToken 135 = .ok (.i2l, 1)))) (
   sndC (sd_ldc2 (hw := w_1198) (hd := (by decide +kernel : decode cX11_nextToken 136 = .ok (.ldc2_w 159, 3)))) (
   sndC (sd_ldc2 (hw := w_1199) (hd := (by decide +kernel : decode cX11_nextToken 139 = .ok (.ldc2_w 161, 3)))) (
   sndC (sd_if_eq (ht := by decide) (hd := (by decide +kernel : decode cX11_nextToken 145 = .ok (.ifCond .eq 107, 3)))) (
   sndC (sd_aload_n (hi := rfl) (hd := (by decide +kernel : decode cX11_nextToken 148 = .ok (.aload_n 0, 1)))) (
   sndC (sd_iconst (hd := (by decide +kernel : decode cX11_nextToken 149 = .ok (.iconst 2, 1))) (hv := by decide)) (
   sndC (sd_putI (C := RX11) (T := TX11) (N := 41) (hc := rfl) (hin0 := iX11) (hk := by decide) (hlink := w_1035) (ty0 := tyX11) (hty := tyX11_ok) (hnm := nmX11) (hfin := rfl) (hi := rfl) (hd := (by decide +kernel : decode cX11_nextToken 150 = .ok (.putfield 152, 3)))) (
   sndC (sd_aload_n (hi := rfl) (hd := (by decide +kernel : decode cX11_nextToken 153 = .ok (.aload_n 0, 1)))) (
   sndC (sd_lconst (hd := (by decide +kernel : decode cX11_nextToken 154 = .ok (.lconst 0, 1))) (hv := by decide)) (
   sndC (sd_putL (C := RX11) (T := TX11) (N := 41) (hc := rfl) (hin0 := iX11) (hk := by decide) (hlink := w_1037) (ty0 := tyX11) (hty := tyX11_ok) (hnm := nmX11) (hfin := rfl) (hi := rfl) (hd := (by decide +kernel : decode cX11_nextToken 155 = .ok (.putfield 163, 3)))) (
   sndC (sd_iconst (hd := (by decide +kernel : decode cX11_nextToken 158 = .ok (.iconst 0, 1))) (hv := by decide)) (
   sndC (sd_istore_n (hi := rfl) (hd := (by decide +kernel : decode cX11_nextToken 159 = .ok (.istore_n 2, 1)))) (
   sndC (sd_aload_n (hi := rfl) (hd := (by decide +kernel : decode cX11_nextToken 160 = .ok (.aload_n 0, 1)))) (
   sndC (sd_aload_n (hi := rfl) (hd := (by decide +kernel : decode cX11_nextToken 161 = .ok (.aload_n 0, 1)))) (
   sndC (sd_get (C := RX11) (T := TX11) (N := 41) (hc := rfl) (hin0 := iX11) (hk := by decide) (hlink := w_1034) (hd := (by decide +kernel : decode cX11_nextToken 162 = .ok (.getfield 143, 3)))) (
   sndC (sd_i2l (hd := (by decide +kernel : decode cX11_nextToken 168 = .ok (.i2l, 1)))) (
   sndC (sd_ldc2 (hw := w_1198) (hd := (by decide +kernel : decode cX11_nextToken 169 = .ok (.ldc2_w 159, 3)))) (
   sndC (sd_ldc2 (hw := w_1199) (hd := (by decide +kernel : decode cX11_nextToken 172 = .ok (.ldc2_w 161, 3)))) (
   sndC (sd_if_eq (ht := by decide) (hd := (by decide +kernel : decode cX11_nextToken 178 = .ok (.ifCond .eq 57, 3)))) (
   sndC (sd_aload_n (hi := rfl) (hd := (by decide +kernel : decode cX11_nextToken 181 = .ok (.aload_n 0, 1)))) (
   sndC (sd_iload_n (hi := rfl) (hd := (by decide +kernel : decode cX11_nextToken 182 = .ok (.iload_n 2, 1)))) (
   sndC (sd_iconst (hd := (by decide +kernel : decode cX11_nextToken 183 = .ok (.iconst 4, 1))) (hv := by decide)) (
   sndC (sd_cmp_ge (ht := by decide) (hd := (by decide +kernel : decode cX11_nextToken 184 = .ok (.if_icmp .ge 28, 3)))) (
   sndC (sd_ldc2 (hw := w_1167) (hd := (by decide +kernel : decode cX11_nextToken 187 = .ok (.ldc2_w 122, 3)))) (
   sndC (sd_aload_n (hi := rfl) (hd := (by decide +kernel : decode cX11_nextToken 190 = .ok (.aload_n 0, 1)))) (
   sndC (sd_get (C := RX11) (T := TX11) (N := 41) (hc := rfl) (hin0 := iX11) (hk := by decide) (hlink := w_1037) (hd := (by decide +kernel : decode cX11_nextToken 191 = .ok (.getfield 163, 3)))) (
   sndC (sd_lmul (hd := (by decide +kernel : decode cX11_nextToken 194 = .ok (.lmul, 1)))) (
   sndC (sd_aload_n (hi := rfl) (hd := (by decide +kernel : decode cX11_nextToken 195 = .ok (.aload_n 0, 1)))) (
   sndC (sd_aload_n (hi := rfl) (hd := (by decide +kernel : decode cX11_nextToken 196 = .ok (.aload_n 0, 1)))) (
   sndC (sd_get (C := RX11) (T := TX11) (N := 41) (hc := rfl) (hin0 := iX11) (hk := by decide) (hlink := w_1034) (hd := (by decide +kernel : decode cX11_nextToken 197 = .ok (.getfield 143, 3)))) (
   sndC (sd_i2l (hd := (by decide +kernel : decode cX11_nextToken 203 = .ok (.i2l, 1)))) (
   sndC (sd_ladd (hd := (by decide +kernel : decode cX11_nextToken 204 = .ok (.ladd, 1)))) (
   sndC (sd_ldc2 (hw := w_1198) (hd := (by decide +kernel : decode cX11_nextToken 205 = .ok (.ldc2_w 159, 3)))) (
   sndC (sd_lsub (hd := (by decide +kernel : decode cX11_nextToken 208 = .ok (.lsub, 1)))) (
   sndC (sd_goto (ht := by decide) (hd := (by decide +kernel : decode cX11_nextToken 209 = .ok (.goto 7, 3)))) (
   sndC (sd_aload_n (hi := rfl) (hd := (by decide +kernel : decode cX11_nextToken 212 = .ok (.aload_n 0, 1)))) (
   sndC (sd_get (C := RX11) (T := TX11) (N := 41) (hc := rfl) (hin0 := iX11) (hk := by decide) (hlink := w_1037) (hd := (by decide +kernel : decode cX11_nextToken 213 = .ok (.getfield 163, 3)))) (
   sndC (sd_putL (C := RX11) (T := TX11) (N := 41) (hc := rfl) (hin0 := iX11) (hk := by decide) (hlink := w_1037) (ty0 := tyX11) (hty := tyX11_ok) (hnm := nmX11) (hfin := rfl) (hi := rfl) (hd := (by decide +kernel : decode cX11_nextToken 216 = .ok (.putfield 163, 3)))) (
   sndC (sd_iinc (hv := by decide) (hd := (by decide +kernel : decode cX11_nextToken 219 = .ok (.iinc 2 1, 3)))) (
   sndC (sd_aload_n (hi := rfl) (hd := (by decide +kernel : decode cX11_nextToken 222 = .ok (.aload_n 0, 1)))) (
   sndC (sd_dup (hd := (by decide +kernel : decode cX11_nextToken 223 = .ok (.dup, 1)))) (
   sndC (sd_get (C := RX11) (T := TX11) (N := 41) (hc := rfl) (hin0 := iX11) (hk := by decide) (hlink := w_1034) (hd := (by decide +kernel : decode cX11_nextToken 224 = .ok (.getfield 143, 3)))) (
   sndC (sd_iconst (hd := (by decide +kernel : decode cX11_nextToken 227 = .ok (.iconst 1, 1))) (hv := by decide)) (
   sndC (sd_iadd (hd := (by decide +kernel : decode cX11_nextToken 228 = .ok (.iadd, 1)))) (
   sndC (sd_putI (C := RX11) (T := TX11) (N := 41) (hc := rfl) (hin0 := iX11) (hk := by decide) (hlink := w_1034) (ty0 := tyX11) (hty := tyX11_ok) (hnm := nmX11) (hfin := rfl) (hi := rfl) (hd := (by decide +kernel : decode cX11_nextToken 229 = .ok (.putfield 143, 3)))) (
   sndC (sd_goto (ht := by decide) (hd := (by decide +kernel : decode cX11_nextToken 232 = .ok (.goto (-72), 3)))) (
   sndC (sd_aload_n (hi := rfl) (hd := (by decide +kernel : decode cX11_nextToken 235 = .ok (.aload_n 0, 1)))) (
   sndC (sd_iload_n (hi := rfl) (hd := (by decide +kernel : decode cX11_nextToken 236 = .ok (.iload_n 2, 1)))) (
   sndC (sd_iconst (hd := (by decide +kernel : decode cX11_nextToken 237 = .ok (.iconst 4, 1))) (hv := by decide)) (
   sndC (sd_cmp_le (ht := by decide) (hd := (by decide +kernel : decode cX11_nextToken 238 = .ok (.if_icmp .le 7, 3)))) (
   sndC (sd_iconst (hd := (by decide +kernel : decode cX11_nextToken 241 = .ok (.iconst 4, 1))) (hv := by decide)) (
   sndC (sd_goto (ht := by decide) (hd := (by decide +kernel : decode cX11_nextToken 242 = .ok (.goto 4, 3)))) (
   sndC (sd_iconst (hd := (by decide +kernel : decode cX11_nextToken 245 = .ok (.iconst 2, 1))) (hv := by decide)) (
   sndC (sd_putI (C := RX11) (T := TX11) (N := 41) (hc := rfl) (hin0 := iX11) (hk := by decide) (hlink := w_1035) (ty0 := tyX11) (hty := tyX11_ok) (hnm := nmX11) (hfin := rfl) (hi := rfl) (hd := (by decide +kernel : decode cX11_nextToken 246 = .ok (.putfield 152, 3)))) (
   sndC (sd_goto (ht := by decide) (hd := (by decide +kernel : decode cX11_nextToken 249 = .ok (.goto 72, 3)))) (
   sndC (sd_iload_n (hi := rfl) (hd := (by decide +kernel : decode cX11_nextToken 252 = .ok (.iload_n 1, 1)))) (
   sndC (sd_bipush (hd := (by decide +kernel : decode cX11_nextToken 253 = .ok (.bipush 40, 2))) (hv := by decide)) (
   sndC (sd_cmp_eq (ht := by decide) (hd := (by decide +kernel : decode cX11_nextToken 255 = .ok (.if_icmp .eq 45, 3)))) (
   sndC (sd_iload_n (hi := rfl) (hd := (by decide +kernel : decode cX11_nextToken 258 = .ok (.iload_n 1, 1)))) (
   sndC (sd_bipush (hd := (by decide +kernel : decode cX11_nextToken 259 = .ok (.bipush 41, 2))) (hv := by decide)) (
   sndC (sd_cmp_eq (ht := by decide) (hd := (by decide +kernel : decode cX11_nextToken 261 = .ok (.if_icmp .eq 39, 3)))) (
   sndC (sd_iload_n (hi := rfl) (hd := (by decide +kernel : decode cX11_nextToken 264 = .ok (.iload_n 1, 1)))) (
   sndC (sd_bipush (hd := (by decide +kernel : decode cX11_nextToken 265 = .ok (.bipush 59, 2))) (hv := by decide)) (
   sndC (sd_cmp_eq (ht := by decide) (hd := (by decide +kernel : decode cX11_nextToken 267 = .ok (.if_icmp .eq 33, 3)))) (
   sndC (sd_iload_n (hi := rfl) (hd := (by decide +kernel : decode cX11_nextToken 270 = .ok (.iload_n 1, 1)))) (
   sndC (sd_bipush (hd := (by decide +kernel : decode cX11_nextToken 271 = .ok (.bipush 43, 2))) (hv := by decide)) (
   sndC (sd_cmp_eq (ht := by decide) (hd := (by decide +kernel : decode cX11_nextToken 273 = .ok (.if_icmp .eq 27, 3)))) (
   sndC (sd_iload_n (hi := rfl) (hd := (by decide +kernel : decode cX11_nextToken 276 = .ok (.iload_n 1, 1)))) (
   sndC (sd_bipush (hd := (by decide +kernel : decode cX11_nextToken 277 = .ok (.bipush 45, 2))) (hv := by decide)) (
   sndC (sd_cmp_eq (ht := by decide) (hd := (by decide +kernel : decode cX11_nextToken 279 = .ok (.if_icmp .eq 21, 3)))) (
   sndC (sd_iload_n (hi := rfl) (hd := (by decide +kernel : decode cX11_nextToken 282 = .ok (.iload_n 1, 1)))) (
   sndC (sd_bipush (hd := (by decide +kernel : decode cX11_nextToken 283 = .ok (.bipush 42, 2))) (hv := by decide)) (
   sndC (sd_cmp_eq (ht := by decide) (hd := (by decide +kernel : decode cX11_nextToken 285 = .ok (.if_icmp .eq 15, 3)))) (
   sndC (sd_iload_n (hi := rfl) (hd := (by decide +kernel : decode cX11_nextToken 288 = .ok (.iload_n 1, 1)))) (
   sndC (sd_bipush (hd := (by decide +kernel : decode cX11_nextToken 289 = .ok (.bipush 60, 2))) (hv := by decide)) (
   sndC (sd_cmp_eq (ht := by decide) (hd := (by decide +kernel : decode cX11_nextToken 291 = .ok (.if_icmp .eq 9, 3)))) (
   sndC (sd_iload_n (hi := rfl) (hd := (by decide +kernel : decode cX11_nextToken 294 = .ok (.iload_n 1, 1)))) (
   sndC (sd_bipush (hd := (by decide +kernel : decode cX11_nextToken 295 = .ok (.bipush 61, 2))) (hv := by decide)) (
   sndC (sd_cmp_ne (ht := by decide) (hd := (by decide +kernel : decode cX11_nextToken 297 = .ok (.if_icmp .ne 24, 3)))) (
   sndC (sd_aload_n (hi := rfl) (hd := (by decide +kernel : decode cX11_nextToken 300 = .ok (.aload_n 0, 1)))) (
   sndC (sd_iconst (hd := (by decide +kernel : decode cX11_nextToken 301 = .ok (.iconst 3, 1))) (hv := by decide)) (
   sndC (sd_putI (C := RX11) (T := TX11) (N := 41) (hc := rfl) (hin0 := iX11) (hk := by decide) (hlink := w_1035) (ty0 := tyX11) (hty := tyX11_ok) (hnm := nmX11) (hfin := rfl) (hi := rfl) (hd := (by decide +kernel : decode cX11_nextToken 302 = .ok (.putfield 152, 3)))) (
   sndC (sd_aload_n (hi := rfl) (hd := (by decide +kernel : decode cX11_nextToken 305 = .ok (.aload_n 0, 1)))) (
   sndC (sd_iload_n (hi := rfl) (hd := (by decide +kernel : decode cX11_nextToken 306 = .ok (.iload_n 1, 1)))) (
   sndC (sd_i2l (hd := (by decide +kernel : decode cX11_nextToken 307 = .ok (.i2l, 1)))) (
   sndC (sd_putL (C := RX11) (T := TX11) (N := 41) (hc := rfl) (hin0 := iX11) (hk := by decide) (hlink := w_1037) (ty0 := tyX11) (hty := tyX11_ok) (hnm := nmX11) (hfin := rfl) (hi := rfl) (hd := (by decide +kernel : decode cX11_nextToken 308 = .ok (.putfield 163, 3)))) (
   sndC (sd_aload_n (hi := rfl) (hd := (by decide +kernel : decode cX11_nextToken 311 = .ok (.aload_n 0, 1)))) (
   sndC (sd_dup (hd := (by decide +kernel : decode cX11_nextToken 312 = .ok (.dup, 1)))) (
   sndC (sd_get (C := RX11) (T := TX11) (N := 41) (hc := rfl) (hin0 := iX11) (hk := by decide) (hlink := w_1034) (hd := (by decide +kernel : decode cX11_nextToken 313 = .ok (.getfield 143, 3)))) (
   sndC (sd_iconst (hd := (by decide +kernel : decode cX11_nextToken 316 = .ok (.iconst 1, 1))) (hv := by decide)) (
   sndC (sd_iadd (hd := (by decide +kernel : decode cX11_nextToken 317 = .ok (.iadd, 1)))) (
   sndC (sd_putI (C := RX11) (T := TX11) (N := 41) (hc := rfl) (hin0 := iX11) (hk := by decide) (hlink := w_1034) (ty0 := tyX11) (hty := tyX11_ok) (hnm := nmX11) (hfin := rfl) (hi := rfl) (hd := (by decide +kernel : decode cX11_nextToken 318 = .ok (.putfield 143, 3)))) (
   sndN)))))))))))))))))))))))))))))))))))))))))))))))))))))))))))))))))))))))))))))))))))))))))))))))))))))))))))))))))))))))))))))))))))))))))))))))))))))))))⟩
theorem kX11_nextToken_5 : CallAt mX11_nextToken 5 0 mX11_byteAt 1 := ⟨by decide +kernel, ⟨_, (by decide +kernel : decode cX11_nextToken 5 = .ok (.invokevirtual 146, 3)), w_1192, w_1194, w_54⟩⟩
theorem kX11_nextToken_18 : CallAt mX11_nextToken 18 0 mX11_byteAt 1 := ⟨by decide +kernel, ⟨_, (by decide +kernel : decode cX11_nextToken 18 = .ok (.invokevirtual 146, 3)), w_1192, w_1194, w_54⟩⟩
theorem kX11_nextToken_52 : CallAt mX11_nextToken 52 0 mX11_byteAt 1 := ⟨by decide +kernel, ⟨_, (by decide +kernel : decode cX11_nextToken 52 = .ok (.invokevirtual 146, 3)), w_1192, w_1194, w_54⟩⟩
theorem kX11_nextToken_89 : CallAt mX11_nextToken 89 1 mX11_in 3 := ⟨by decide +kernel, ⟨_, (by decide +kernel : decode cX11_nextToken 89 = .ok (.invokestatic 82, 3)), w_1144, w_1145⟩⟩
theorem kX11_nextToken_105 : CallAt mX11_nextToken 105 0 mX11_byteAt 1 := ⟨by decide +kernel, ⟨_, (by decide +kernel : decode cX11_nextToken 105 = .ok (.invokevirtual 146, 3)), w_1192, w_1194, w_54⟩⟩
theorem kX11_nextToken_115 : CallAt mX11_nextToken 115 1 mX11_in 3 := ⟨by decide +kernel, ⟨_, (by decide +kernel : decode cX11_nextToken 115 = .ok (.invokestatic 82, 3)), w_1144, w_1145⟩⟩
theorem kX11_nextToken_142 : CallAt mX11_nextToken 142 1 mX11_in 3 := ⟨by decide +kernel, ⟨_, (by decide +kernel : decode cX11_nextToken 142 = .ok (.invokestatic 82, 3)), w_1144, w_1145⟩⟩
theorem kX11_nextToken_165 : CallAt mX11_nextToken 165 0 mX11_byteAt 1 := ⟨by decide +kernel, ⟨_, (by decide +kernel : decode cX11_nextToken 165 = .ok (.invokevirtual 146, 3)), w_1192, w_1194, w_54⟩⟩
theorem kX11_nextToken_175 : CallAt mX11_nextToken 175 1 mX11_in 3 := ⟨by decide +kernel, ⟨_, (by decide +kernel : decode cX11_nextToken 175 = .ok (.invokestatic 82, 3)), w_1144, w_1145⟩⟩
theorem kX11_nextToken_200 : CallAt mX11_nextToken 200 0 mX11_byteAt 1 := ⟨by decide +kernel, ⟨_, (by decide +kernel : decode cX11_nextToken 200 = .ok (.invokevirtual 146, 3)), w_1192, w_1194, w_54⟩⟩

set_option maxRecDepth 20000 in
theorem GX11_fail : Good mX11_fail := ⟨by decide +kernel, List.mem_of_getElem? (i := 1215) (by decide +kernel), inX11, ⟨by decide +kernel, by decide +kernel⟩, by decide, show ∀ q ∈ tX11_fail, Snd mX11_fail q.1 q.2 from
  sndC (sd_aload_n (hi := rfl) (hd := (by decide +kernel : decode cX11_fail 0 = .ok (.aload_n 0, 1)))) (
   sndC (sd_get (C := RX11) (T := TX11) (N := 41) (hc := rfl) (hin0 := iX11) (hk := by decide) (hlink := w_1039) (hd := (by decide +kernel : decode cX11_fail 1 = .ok (.getfield 167, 3)))) (
   sndC (sd_if_ne (ht := by decide) (hd := (by decide +kernel : decode cX11_fail 4 = .ok (.ifCond .ne 16, 3)))) (
   sndC (sd_aload_n (hi := rfl) (hd := (by decide +kernel : decode cX11_fail 7 = .ok (.aload_n 0, 1)))) (
   sndC (sd_iconst (hd := (by decide +kernel : decode cX11_fail 8 = .ok (.iconst 1, 1))) (hv := by decide)) (
   sndC (sd_putZ (C := RX11) (T := TX11) (N := 41) (hc := rfl) (hin0 := iX11) (hk := by decide) (hlink := w_1039) (ty0 := tyX11) (hty := tyX11_ok) (hnm := nmX11) (hfin := rfl) (hi := rfl) (hd := (by decide +kernel : decode cX11_fail 9 = .ok (.putfield 167, 3)))) (
   sndC (sd_aload_n (hi := rfl) (hd := (by decide +kernel : decode cX11_fail 12 = .ok (.aload_n 0, 1)))) (
   sndC (sd_aload_n (hi := rfl) (hd := (by decide +kernel : decode cX11_fail 13 = .ok (.aload_n 0, 1)))) (
   sndC (sd_get (C := RX11) (T := TX11) (N := 41) (hc := rfl) (hin0 := iX11) (hk := by decide) (hlink := w_1036) (hd := (by decide +kernel : decode cX11_fail 14 = .ok (.getfield 149, 3)))) (
   sndC (sd_putI (C := RX11) (T := TX11) (N := 41) (hc := rfl) (hin0 := iX11) (hk := by decide) (hlink := w_1040) (ty0 := tyX11) (hty := tyX11_ok) (hnm := nmX11) (hfin := rfl) (hi := rfl) (hd := (by decide +kernel : decode cX11_fail 17 = .ok (.putfield 171, 3)))) (
   sndN))))))))))⟩


set_option maxRecDepth 20000 in
theorem GX11_isLetter : Good mX11_isLetter := ⟨by decide +kernel, List.mem_of_getElem? (i := 1207) (by decide +kernel), inX11, ⟨by decide +kernel, by decide +kernel⟩, by decide, show ∀ q ∈ tX11_isLetter, Snd mX11_isLetter q.1 q.2 from
  sndC (sd_aload_n (hi := rfl) (hd := (by decide +kernel : decode cX11_isLetter 0 = .ok (.aload_n 0, 1)))) (
   sndC (sd_get (C := RX11) (T := TX11) (N := 41) (hc := rfl) (hin0 := iX11) (hk := by decide) (hlink := w_1036) (hd := (by decide +kernel : decode cX11_isLetter 1 = .ok (.getfield 149, 3)))) (
   sndC (sd_iload_n (hi := rfl) (hd := (by decide +kernel : decode cX11_isLetter 4 = .ok (.iload_n 1, 1)))) (
   sndC (sd_iadd (hd := (by decide +kernel : decode cX11_isLetter 5 = .ok (.iadd, 1)))) (
   sndC (sd_aload_n (hi := rfl) (hd := (by decide +kernel : decode cX11_isLetter 6 = .ok (.aload_n 0, 1)))) (
   sndC (sd_get (C := RX11) (T := TX11) (N := 41) (hc := rfl) (hin0 := iX11) (hk := by decide) (hlink := w_1034) (hd := (by decide +kernel : decode cX11_isLetter 7 = .ok (.getfield 143, 3)))) (
   sndC (sd_cmp_ge (ht := by decide) (hd := (by decide +kernel : decode cX11_isLetter 10 = .ok (.if_icmp .ge 25, 3)))) (
   sndC (sd_aload_n (hi := rfl) (hd := (by decide +kernel : decode cX11_isLetter 13 = .ok (.aload_n 0, 1)))) (
   sndC (sd_aload_n (hi := rfl) (hd := (by decide +kernel : decode cX11_isLetter 14 = .ok (.aload_n 0, 1)))) (
   sndC (sd_get (C := RX11) (T := TX11) (N := 41) (hc := rfl) (hin0 := iX11) (hk := by decide) (hlink := w_1036) (hd := (by decide +kernel : decode cX11_isLetter 15 = .ok (.getfield 149, 3)))) (
   sndC (sd_iload_n (hi := rfl) (hd := (by decide +kernel : decode cX11_isLetter 18 = .ok (.iload_n 1, 1)))) (
   sndC (sd_iadd (hd := (by decide +kernel : decode cX11_isLetter 19 = .ok (.iadd, 1)))) (
   sndC (sd_iload_n (hi := rfl) (hd := (by decide +kernel : decode cX11_isLetter 23 = .ok (.iload_n 2, 1)))) (
   sndC (sd_cmp_ne (ht := by decide) (hd := (by decide +kernel : decode cX11_isLetter 24 = .ok (.if_icmp .ne 7, 3)))) (
   sndC (sd_iconst (hd := (by decide +kernel : decode cX11_isLetter 27 = .ok (.iconst 1, 1))) (hv := by decide)) (
   sndC (sd_goto (ht := by decide) (hd := (by decide +kernel : decode cX11_isLetter 28 = .ok (.goto 16, 3)))) (
   sndC (sd_iconst (hd := (by decide +kernel : decode cX11_isLetter 31 = .ok (.iconst 0, 1))) (hv := by decide)) (
   sndC (sd_goto (ht := by decide) (hd := (by decide +kernel : decode cX11_isLetter 32 = .ok (.goto 12, 3)))) (
   sndC (sd_iload_n (hi := rfl) (hd := (by decide +kernel : decode cX11_isLetter 35 = .ok (.iload_n 2, 1)))) (
   sndC (sd_if_ne (ht := by decide) (hd := (by decide +kernel : decode cX11_isLetter 36 = .ok (.ifCond .ne 7, 3)))) (
   sndC (sd_iconst (hd := (by decide +kernel : decode cX11_isLetter 39 = .ok (.iconst 1, 1))) (hv := by decide)) (
   sndC (sd_goto (ht := by decide) (hd := (by decide +kernel : decode cX11_isLetter 40 = .ok (.goto 4, 3)))) (
   sndC (sd_iconst (hd := (by decide +kernel : decode cX11_isLetter 43 = .ok (.iconst 0, 1))) (hv := by decide)) (
   sndN)))))))))))))))))))))))⟩
theorem kX11_isLetter_20 : CallAt mX11_isLetter 20 0 mX11_byteAt 1 := ⟨by decide +kernel, ⟨_, (by decide +kernel : decode cX11_isLetter 20 = .ok (.invokevirtual 146, 3)), w_1192, w_1194, w_54⟩⟩

set_option maxRecDepth 20000 in
theorem GX11_isWord : Good mX11_isWord := ⟨by decide +kernel, List.mem_of_getElem? (i := 1203) (by decide +kernel), inX11, ⟨by decide +kernel, by decide +kernel⟩, by decide, show ∀ q ∈ tX11_isWord, Snd mX11_isWord q.1 q.2 from
  sndC (sd_aload_n (hi := rfl) (hd := (by decide +kernel : decode cX11_isWord 0 = .ok (.aload_n 0, 1)))) (
   sndC (sd_get (C := RX11) (T := TX11) (N := 41) (hc := rfl) (hin0 := iX11) (hk := by decide) (hlink := w_1039) (hd := (by decide +kernel : decode cX11_isWord 1 = .ok (.getfield 167, 3)))) (
   sndC (sd_if_ne (ht := by decide) (hd := (by decide +kernel : decode cX11_isWord 4 = .ok (.ifCond .ne 108, 3)))) (
   sndC (sd_aload_n (hi := rfl) (hd := (by decide +kernel : decode cX11_isWord 7 = .ok (.aload_n 0, 1)))) (
   sndC (sd_get (C := RX11) (T := TX11) (N := 41) (hc := rfl) (hin0 := iX11) (hk := by decide) (hlink := w_1035) (hd := (by decide +kernel : decode cX11_isWord 8 = .ok (.getfield 152, 3)))) (
   sndC (sd_iconst (hd := (by decide +kernel : decode cX11_isWord 11 = .ok (.iconst 1, 1))) (hv := by decide)) (
   sndC (sd_cmp_ne (ht := by decide) (hd := (by decide +kernel : decode cX11_isWord 12 = .ok (.if_icmp .ne 100, 3)))) (
   sndC (sd_aload_n (hi := rfl) (hd := (by decide +kernel : decode cX11_isWord 15 = .ok (.aload_n 0, 1)))) (
   sndC (sd_get (C := RX11) (T := TX11) (N := 41) (hc := rfl) (hin0 := iX11) (hk := by decide) (hlink := w_1034) (hd := (by decide +kernel : decode cX11_isWord 16 = .ok (.getfield 143, 3)))) (
   sndC (sd_aload_n (hi := rfl) (hd := (by decide +kernel : decode cX11_isWord 19 = .ok (.aload_n 0, 1)))) (
   sndC (sd_get (C := RX11) (T := TX11) (N := 41) (hc := rfl) (hin0 := iX11) (hk := by decide) (hlink := w_1036) (hd := (by decide +kernel : decode cX11_isWord 20 = .ok (.getfield 149, 3)))) (
   sndC (sd_bipush (hd := (by decide +kernel : decode cX11_isWord 23 = .ok (.bipush 8, 2))) (hv := by decide)) (
   sndC (sd_iadd (hd := (by decide +kernel : decode cX11_isWord 25 = .ok (.iadd, 1)))) (
   sndC (sd_cmp_gt (ht := by decide) (hd := (by decide +kernel : decode cX11_isWord 26 = .ok (.if_icmp .gt 86, 3)))) (
   sndC (sd_aload_n (hi := rfl) (hd := (by decide +kernel : decode cX11_isWord 29 = .ok (.aload_n 0, 1)))) (
   sndC (sd_iconst (hd := (by decide +kernel : decode cX11_isWord 30 = .ok (.iconst 0, 1))) (hv := by decide)) (
   sndC (sd_iload_n (hi := rfl) (hd := (by decide +kernel : decode cX11_isWord 31 = .ok (.iload_n 1, 1)))) (
   sndC (sd_if_eq (ht := by decide) (hd := (by decide +kernel : decode cX11_isWord 35 = .ok (.ifCond .eq 77, 3)))) (
   sndC (sd_aload_n (hi := rfl) (hd := (by decide +kernel : decode cX11_isWord 38 = .ok (.aload_n 0, 1)))) (
   sndC (sd_iconst (hd := (by decide +kernel : decode cX11_isWord 39 = .ok (.iconst 1, 1))) (hv := by decide)) (
   sndC (sd_iload_n (hi := rfl) (hd := (by decide +kernel : decode cX11_isWord 40 = .ok (.iload_n 2, 1)))) (
   sndC (sd_if_eq (ht := by decide) (hd := (by decide +kernel : decode cX11_isWord 44 = .ok (.ifCond .eq 68, 3)))) (
   sndC (sd_aload_n (hi := rfl) (hd := (by decide +kernel : decode cX11_isWord 47 = .ok (.aload_n 0, 1)))) (
   sndC (sd_iconst (hd := (by decide +kernel : decode cX11_isWord 48 = .ok (.iconst 2, 1))) (hv := by decide)) (
   sndC (sd_iload_n (hi := rfl) (hd := (by decide +kernel : decode cX11_isWord 49 = .ok (.iload_n 3, 1)))) (
   sndC (sd_if_eq (ht := by decide) (hd := (by decide +kernel : decode cX11_isWord 53 = .ok (.ifCond .eq 59, 3)))) (
   sndC (sd_aload_n (hi := rfl) (hd := (by decide +kernel : decode cX11_isWord 56 = .ok (.aload_n 0, 1)))) (
   sndC (sd_iconst (hd := (by decide +kernel : decode cX11_isWord 57 = .ok (.iconst 3, 1))) (hv := by decide)) (
   sndC (sd_iload (hd := (by decide +kernel : decode cX11_isWord 58 = .ok (.iload 4, 2)))) (
   sndC (sd_if_eq (ht := by decide) (hd := (by decide +kernel : decode cX11_isWord 63 = .ok (.ifCond .eq 49, 3)))) (
   sndC (sd_aload_n (hi := rfl) (hd := (by decide +kernel : decode cX11_isWord 66 = .ok (.aload_n 0, 1)))) (
   sndC (sd_iconst (hd := (by decide +kernel : decode cX11_isWord 67 = .ok (.iconst 4, 1))) (hv := by decide)) (
   sndC (sd_iload (hd := (by decide +kernel : decode cX11_isWord 68 = .ok (.iload 5, 2)))) (
   sndC (sd_if_eq (ht := by decide) (hd := (by decide +kernel : decode cX11_isWord 73 = .ok (.ifCond .eq 39, 3)))) (
   sndC (sd_aload_n (hi := rfl) (hd := (by decide +kernel : decode cX11_isWord 76 = .ok (.aload_n 0, 1)))) (
   sndC (sd_iconst (hd := (by decide +kernel : decode cX11_isWord 77 = .ok (.iconst 5, 1))) (hv := by decide)) (
   sndC (sd_iload (hd := (by decide +kernel : decode cX11_isWord 78 = .ok (.iload 6, 2)))) (
   sndC (sd_if_eq (ht := by decide) (hd := (by decide +kernel : decode cX11_isWord 83 = .ok (.ifCond .eq 29, 3)))) (
   sndC (sd_aload_n (hi := rfl) (hd := (by decide +kernel : decode cX11_isWord 86 = .ok (.aload_n 0, 1)))) (
   sndC (sd_bipush (hd := (by decide +kernel : decode cX11_isWord 87 = .ok (.bipush 6, 2))) (hv := by decide)) (
   sndC (sd_iload (hd := (by decide +kernel : decode cX11_isWord 89 = .ok (.iload 7, 2)))) (
   sndC (sd_if_eq (ht := by decide) (hd := (by decide +kernel : decode cX11_isWord 94 = .ok (.ifCond .eq 18, 3)))) (
   sndC (sd_aload_n (hi := rfl) (hd := (by decide +kernel : decode cX11_isWord 97 = .ok (.aload_n 0, 1)))) (
   sndC (sd_bipush (hd := (by decide +kernel : decode cX11_isWord 98 = .ok (.bipush 7, 2))) (hv := by decide)) (
   sndC (sd_iload (hd := (by decide +kernel : decode cX11_isWord 100 = .ok (.iload 8, 2)))) (
   sndC (sd_if_eq (ht := by decide) (hd := (by decide +kernel : decode cX11_isWord 105 = .ok (.ifCond .eq 7, 3)))) (
   sndC (sd_iconst (hd := (by decide +kernel : decode cX11_isWord 108 = .ok (.iconst 1, 1))) (hv := by decide)) (
   sndC (sd_goto (ht := by decide) (hd := (by decide +kernel : decode cX11_isWord 109 = .ok (.goto 4, 3)))) (
   sndC (sd_iconst (hd := (by decide +kernel : decode cX11_isWord 112 = .ok (.iconst 0, 1))) (hv := by decide)) (
   sndN)))))))))))))))))))))))))))))))))))))))))))))))))⟩
theorem kX11_isWord_32 : CallAt mX11_isWord 32 0 mX11_isLetter 2 := ⟨by decide +kernel, ⟨_, (by decide +kernel : decode cX11_isWord 32 = .ok (.invokevirtual 174, 3)), w_1204, w_1206, w_56⟩⟩
theorem kX11_isWord_41 : CallAt mX11_isWord 41 0 mX11_isLetter 2 := ⟨by decide +kernel, ⟨_, (by decide +kernel : decode cX11_isWord 41 = .ok (.invokevirtual 174, 3)), w_1204, w_1206, w_56⟩⟩
theorem kX11_isWord_50 : CallAt mX11_isWord 50 0 mX11_isLetter 2 := ⟨by decide +kernel, ⟨_, (by decide +kernel : decode cX11_isWord 50 = .ok (.invokevirtual 174, 3)), w_1204, w_1206, w_56⟩⟩
theorem kX11_isWord_60 : CallAt mX11_isWord 60 0 mX11_isLetter 2 := ⟨by decide +kernel, ⟨_, (by decide +kernel : decode cX11_isWord 60 = .ok (.invokevirtual 174, 3)), w_1204, w_1206, w_56⟩⟩
theorem kX11_isWord_70 : CallAt mX11_isWord 70 0 mX11_isLetter 2 := ⟨by decide +kernel, ⟨_, (by decide +kernel : decode cX11_isWord 70 = .ok (.invokevirtual 174, 3)), w_1204, w_1206, w_56⟩⟩
theorem kX11_isWord_80 : CallAt mX11_isWord 80 0 mX11_isLetter 2 := ⟨by decide +kernel, ⟨_, (by decide +kernel : decode cX11_isWord 80 = .ok (.invokevirtual 174, 3)), w_1204, w_1206, w_56⟩⟩
theorem kX11_isWord_91 : CallAt mX11_isWord 91 0 mX11_isLetter 2 := ⟨by decide +kernel, ⟨_, (by decide +kernel : decode cX11_isWord 91 = .ok (.invokevirtual 174, 3)), w_1204, w_1206, w_56⟩⟩
theorem kX11_isWord_102 : CallAt mX11_isWord 102 0 mX11_isLetter 2 := ⟨by decide +kernel, ⟨_, (by decide +kernel : decode cX11_isWord 102 = .ok (.invokevirtual 174, 3)), w_1204, w_1206, w_56⟩⟩

set_option maxRecDepth 20000 in
theorem GX11_isSign : Good mX11_isSign := ⟨by decide +kernel, List.mem_of_getElem? (i := 1267) (by decide +kernel), inX11, ⟨by decide +kernel, by decide +kernel⟩, by decide, show ∀ q ∈ tX11_isSign, Snd mX11_isSign q.1 q.2 from
  sndC (sd_aload_n (hi := rfl) (hd := (by decide +kernel : decode cX11_isSign 0 = .ok (.aload_n 0, 1)))) (
   sndC (sd_get (C := RX11) (T := TX11) (N := 41) (hc := rfl) (hin0 := iX11) (hk := by decide) (hlink := w_1039) (hd := (by decide +kernel : decode cX11_isSign 1 = .ok (.getfield 167, 3)))) (
   sndC (sd_if_ne (ht := by decide) (hd := (by decide +kernel : decode cX11_isSign 4 = .ok (.ifCond .ne 25, 3)))) (
   sndC (sd_aload_n (hi := rfl) (hd := (by decide +kernel : decode cX11_isSign 7 = .ok (.aload_n 0, 1)))) (
   sndC (sd_get (C := RX11) (T := TX11) (N := 41) (hc := rfl) (hin0 := iX11) (hk := by decide) (hlink := w_1035) (hd := (by decide +kernel : decode cX11_isSign 8 = .ok (.getfield 152, 3)))) (
   sndC (sd_iconst (hd := (by decide +kernel : decode cX11_isSign 11 = .ok (.iconst 3, 1))) (hv := by decide)) (
   sndC (sd_cmp_ne (ht := by decide) (hd := (by decide +kernel : decode cX11_isSign 12 = .ok (.if_icmp .ne 17, 3)))) (
   sndC (sd_aload_n (hi := rfl) (hd := (by decide +kernel : decode cX11_isSign 15 = .ok (.aload_n 0, 1)))) (
   sndC (sd_get (C := RX11) (T := TX11) (N := 41) (hc := rfl) (hin0 := iX11) (hk := by decide) (hlink := w_1037) (hd := (by decide +kernel : decode cX11_isSign 16 = .ok (.getfield 163, 3)))) (
   sndC (sd_iload_n (hi := rfl) (hd := (by decide +kernel : decode cX11_isSign 19 = .ok (.iload_n 1, 1)))) (
   sndC (sd_i2l (hd := (by decide +kernel : decode cX11_isSign 20 = .ok (.i2l, 1)))) (
   sndC (sd_lcmp (hd := (by decide +kernel : decode cX11_isSign 21 = .ok (.lcmp, 1)))) (
   sndC (sd_if_ne (ht := by decide) (hd := (by decide +kernel : decode cX11_isSign 22 = .ok (.ifCond .ne 7, 3)))) (
   sndC (sd_iconst (hd := (by decide +kernel : decode cX11_isSign 25 = .ok (.iconst 1, 1))) (hv := by decide)) (
   sndC (sd_goto (ht := by decide) (hd := (by decide +kernel : decode cX11_isSign 26 = .ok (.goto 4, 3)))) (
   sndC (sd_iconst (hd := (by decide +kernel : decode cX11_isSign 29 = .ok (.iconst 0, 1))) (hv := by decide)) (
   sndN))))))))))))))))⟩


set_option maxRecDepth 20000 in
theorem GX11_opens : Good mX11_opens := ⟨by decide +kernel, List.mem_of_getElem? (i := 1231) (by decide +kernel), inX11, ⟨by decide +kernel, by decide +kernel⟩, by decide, show ∀ q ∈ tX11_opens, Snd mX11_opens q.1 q.2 from
  sndC (sd_aload_n (hi := rfl) (hd := (by decide +kernel : decode cX11_opens 0 = .ok (.aload_n 0, 1)))) (
   sndC (sd_get (C := RX11) (T := TX11) (N := 41) (hc := rfl) (hin0 := iX11) (hk := by decide) (hlink := w_1038) (hd := (by decide +kernel : decode cX11_opens 1 = .ok (.getfield 177, 3)))) (
   sndC (sd_iconst (hd := (by decide +kernel : decode cX11_opens 4 = .ok (.iconst 5, 1))) (hv := by decide)) (
   sndC (sd_cmp_ne (ht := by decide) (hd := (by decide +kernel : decode cX11_opens 5 = .ok (.if_icmp .ne 9, 3)))) (
   sndC (sd_aload_n (hi := rfl) (hd := (by decide +kernel : decode cX11_opens 8 = .ok (.aload_n 0, 1)))) (
   sndC (sd_iconst (hd := (by decide +kernel : decode cX11_opens 12 = .ok (.iconst 0, 1))) (hv := by decide)) (
   sndC (sd_aload_n (hi := rfl) (hd := (by decide +kernel : decode cX11_opens 14 = .ok (.aload_n 0, 1)))) (
   sndC (sd_dup (hd := (by decide +kernel : decode cX11_opens 15 = .ok (.dup, 1)))) (
   sndC (sd_get (C := RX11) (T := TX11) (N := 41) (hc := rfl) (hin0 := iX11) (hk := by decide) (hlink := w_1038) (hd := (by decide +kernel : decode cX11_opens 16 = .ok (.getfield 177, 3)))) (
   sndC (sd_iconst (hd := (by decide +kernel : decode cX11_opens 19 = .ok (.iconst 1, 1))) (hv := by decide)) (
   sndC (sd_iadd (hd := (by decide +kernel : decode cX11_opens 20 = .ok (.iadd, 1)))) (
   sndC (sd_putI (C := RX11) (T := TX11) (N := 41) (hc := rfl) (hin0 := iX11) (hk := by decide) (hlink := w_1038) (ty0 := tyX11) (hty := tyX11_ok) (hnm := nmX11) (hfin := rfl) (hi := rfl) (hd := (by decide +kernel : decode cX11_opens 21 = .ok (.putfield 177, 3)))) (
   sndC (sd_aload_n (hi := rfl) (hd := (by decide +kernel : decode cX11_opens 24 = .ok (.aload_n 0, 1)))) (
   sndC (sd_iconst (hd := (by decide +kernel : decode cX11_opens 28 = .ok (.iconst 1, 1))) (hv := by decide)) (
   sndN))))))))))))))⟩
theorem kX11_opens_9 : CallAt mX11_opens 9 0 mX11_fail 0 := ⟨by decide +kernel, ⟨_, (by decide +kernel : decode cX11_opens 9 = .ok (.invokevirtual 180, 3)), w_1212, w_1214, w_58⟩⟩
theorem kX11_opens_25 : CallAt mX11_opens 25 0 mX11_nextToken 0 := ⟨by decide +kernel, ⟨_, (by decide +kernel : decode cX11_opens 25 = .ok (.invokevirtual 183, 3)), w_1188, w_1190, w_53⟩⟩

set_option maxRecDepth 20000 in
theorem GX11_name : Good mX11_name := ⟨by decide +kernel, List.mem_of_getElem? (i := 1271) (by decide +kernel), inX11, ⟨by decide +kernel, by decide +kernel⟩, by decide, show ∀ q ∈ tX11_name, Snd mX11_name q.1 q.2 from
  sndC (sd_aload_n (hi := rfl) (hd := (by decide +kernel : decode cX11_name 0 = .ok (.aload_n 0, 1)))) (
   sndC (sd_bipush (hd := (by decide +kernel : decode cX11_name 1 = .ok (.bipush 100, 2))) (hv := by decide)) (
   sndC (sd_bipush (hd := (by decide +kernel : decode cX11_name 3 = .ok (.bipush 111, 2))) (hv := by decide)) (
   sndC (sd_bipush (hd := (by decide +kernel : decode cX11_name 5 = .ok (.bipush 105, 2))) (hv := by decide)) (
   sndC (sd_bipush (hd := (by decide +kernel : decode cX11_name 7 = .ok (.bipush 110, 2))) (hv := by decide)) (
   sndC (sd_bipush (hd := (by decide +kernel : decode cX11_name 9 = .ok (.bipush 103, 2))) (hv := by decide)) (
   sndC (sd_iconst (hd := (by decide +kernel : decode cX11_name 11 = .ok (.iconst 0, 1))) (hv := by decide)) (
   sndC (sd_iconst (hd := (by decide +kernel : decode cX11_name 12 = .ok (.iconst 0, 1))) (hv := by decide)) (
   sndC (sd_iconst (hd := (by decide +kernel : decode cX11_name 13 = .ok (.iconst 0, 1))) (hv := by decide)) (
   sndC (sd_if_eq (ht := by decide) (hd := (by decide +kernel : decode cX11_name 17 = .ok (.ifCond .eq 8, 3)))) (
   sndC (sd_aload_n (hi := rfl) (hd := (by decide +kernel : decode cX11_name 20 = .ok (.aload_n 0, 1)))) (
   sndC (sd_get (C := RX11) (T := TX11) (N := 41) (hc := rfl) (hin0 := iX11) (hk := by decide) (hlink := w_1026) (hd := (by decide +kernel : decode cX11_name 21 = .ok (.getfield 190, 3)))) (
   sndC (sd_aload_n (hi := rfl) (hd := (by decide +kernel : decode cX11_name 25 = .ok (.aload_n 0, 1)))) (
   sndC (sd_bipush (hd := (by decide +kernel : decode cX11_name 26 = .ok (.bipush 115, 2))) (hv := by decide)) (
   sndC (sd_bipush (hd := (by decide +kernel : decode cX11_name 28 = .ok (.bipush 116, 2))) (hv := by decide)) (
   sndC (sd_bipush (hd := (by decide +kernel : decode cX11_name 30 = .ok (.bipush 101, 2))) (hv := by decide)) (
   sndC (sd_bipush (hd := (by decide +kernel : decode cX11_name 32 = .ok (.bipush 112, 2))) (hv := by decide)) (
   sndC (sd_iconst (hd := (by decide +kernel : decode cX11_name 34 = .ok (.iconst 0, 1))) (hv := by decide)) (
   sndC (sd_iconst (hd := (by decide +kernel : decode cX11_name 35 = .ok (.iconst 0, 1))) (hv := by decide)) (
   sndC (sd_iconst (hd := (by decide +kernel : decode cX11_name 36 = .ok (.iconst 0, 1))) (hv := by decide)) (
   sndC (sd_iconst (hd := (by decide +kernel : decode cX11_name 37 = .ok (.iconst 0, 1))) (hv := by decide)) (
   sndC (sd_if_eq (ht := by decide) (hd := (by decide +kernel : decode cX11_name 41 = .ok (.ifCond .eq 8, 3)))) (
   sndC (sd_aload_n (hi := rfl) (hd := (by decide +kernel : decode cX11_name 44 = .ok (.aload_n 0, 1)))) (
   sndC (sd_get (C := RX11) (T := TX11) (N := 41) (hc := rfl) (hin0 := iX11) (hk := by decide) (hlink := w_1027) (hd := (by decide +kernel : decode cX11_name 45 = .ok (.getfield 193, 3)))) (
   sndC (sd_aload_n (hi := rfl) (hd := (by decide +kernel : decode cX11_name 49 = .ok (.aload_n 0, 1)))) (
   sndC (sd_bipush (hd := (by decide +kernel : decode cX11_name 50 = .ok (.bipush 110, 2))) (hv := by decide)) (
   sndC (sd_bipush (hd := (by decide +kernel : decode cX11_name 52 = .ok (.bipush 117, 2))) (hv := by decide)) (
   sndC (sd_bipush (hd := (by decide +kernel : decode cX11_name 54 = .ok (.bipush 109, 2))) (hv := by decide)) (
   sndC (sd_bipush (hd := (by decide +kernel : decode cX11_name 56 = .ok (.bipush 98, 2))) (hv := by decide)) (
   sndC (sd_bipush (hd := (by decide +kernel : decode cX11_name 58 = .ok (.bipush 101, 2))) (hv := by decide)) (
   sndC (sd_bipush (hd := (by decide +kernel : decode cX11_name 60 = .ok (.bipush 114, 2))) (hv := by decide)) (
   sndC (sd_iconst (hd := (by decide +kernel : decode cX11_name 62 = .ok (.iconst 0, 1))) (hv := by decide)) (
   sndC (sd_iconst (hd := (by decide +kernel : decode cX11_name 63 = .ok (.iconst 0, 1))) (hv := by decide)) (
   sndC (sd_if_eq (ht := by decide) (hd := (by decide +kernel : decode cX11_name 67 = .ok (.ifCond .eq 8, 3)))) (
   sndC (sd_aload_n (hi := rfl) (hd := (by decide +kernel : decode cX11_name 70 = .ok (.aload_n 0, 1)))) (
   sndC (sd_get (C := RX11) (T := TX11) (N := 41) (hc := rfl) (hin0 := iX11) (hk := by decide) (hlink := w_1028) (hd := (by decide +kernel : decode cX11_name 71 = .ok (.getfield 196, 3)))) (
   sndC (sd_aload_n (hi := rfl) (hd := (by decide +kernel : decode cX11_name 75 = .ok (.aload_n 0, 1)))) (
   sndC (sd_bipush (hd := (by decide +kernel : decode cX11_name 76 = .ok (.bipush 108, 2))) (hv := by decide)) (
   sndC (sd_bipush (hd := (by decide +kernel : decode cX11_name 78 = .ok (.bipush 97, 2))) (hv := by decide)) (
   sndC (sd_bipush (hd := (by decide +kernel : decode cX11_name 80 = .ok (.bipush 115, 2))) (hv := by decide)) (
   sndC (sd_bipush (hd := (by decide +kernel : decode cX11_name 82 = .ok (.bipush 116, 2))) (hv := by decide)) (
   sndC (sd_iconst (hd := (by decide +kernel : decode cX11_name 84 = .ok (.iconst 0, 1))) (hv := by decide)) (
   sndC (sd_iconst (hd := (by decide +kernel : decode cX11_name 85 = .ok (.iconst 0, 1))) (hv := by decide)) (
   sndC (sd_iconst (hd := (by decide +kernel : decode cX11_name 86 = .ok (.iconst 0, 1))) (hv := by decide)) (
   sndC (sd_iconst (hd := (by decide +kernel : decode cX11_name 87 = .ok (.iconst 0, 1))) (hv := by decide)) (
   sndC (sd_if_eq (ht := by decide) (hd := (by decide +kernel : decode cX11_name 91 = .ok (.ifCond .eq 8, 3)))) (
   sndC (sd_aload_n (hi := rfl) (hd := (by decide +kernel : decode cX11_name 94 = .ok (.aload_n 0, 1)))) (
   sndC (sd_get (C := RX11) (T := TX11) (N := 41) (hc := rfl) (hin0 := iX11) (hk := by decide) (hlink := w_1029) (hd := (by decide +kernel : decode cX11_name 95 = .ok (.getfield 199, 3)))) (
   sndC (sd_aload_n (hi := rfl) (hd := (by decide +kernel : decode cX11_name 99 = .ok (.aload_n 0, 1)))) (
   sndC (sd_bipush (hd := (by decide +kernel : decode cX11_name 100 = .ok (.bipush 115, 2))) (hv := by decide)) (
   sndC (sd_bipush (hd := (by decide +kernel : decode cX11_name 102 = .ok (.bipush 101, 2))) (hv := by decide)) (
   sndC (sd_bipush (hd := (by decide +kernel : decode cX11_name 104 = .ok (.bipush 101, 2))) (hv := by decide)) (
   sndC (sd_bipush (hd := (by decide +kernel : decode cX11_name 106 = .ok (.bipush 110, 2))) (hv := by decide)) (
   sndC (sd_iconst (hd := (by decide +kernel : decode cX11_name 108 = .ok (.iconst 0, 1))) (hv := by decide)) (
   sndC (sd_iconst (hd := (by decide +kernel : decode cX11_name 109 = .ok (.iconst 0, 1))) (hv := by decide)) (
   sndC (sd_iconst (hd := (by decide +kernel : decode cX11_name 110 = .ok (.iconst 0, 1))) (hv := by decide)) (
   sndC (sd_iconst (hd := (by decide +kernel : decode cX11_name 111 = .ok (.iconst 0, 1))) (hv := by decide)) (
   sndC (sd_if_eq (ht := by decide) (hd := (by decide +kernel : decode cX11_name 115 = .ok (.ifCond .eq 8, 3)))) (
   sndC (sd_aload_n (hi := rfl) (hd := (by decide +kernel : decode cX11_name 118 = .ok (.aload_n 0, 1)))) (
   sndC (sd_get (C := RX11) (T := TX11) (N := 41) (hc := rfl) (hin0 := iX11) (hk := by decide) (hlink := w_1030) (hd := (by decide +kernel : decode cX11_name 119 = .ok (.getfield 202, 3)))) (
   sndC (sd_aload_n (hi := rfl) (hd := (by decide +kernel : decode cX11_name 123 = .ok (.aload_n 0, 1)))) (
   sndC (sd_bipush (hd := (by decide +kernel : decode cX11_name 124 = .ok (.bipush 97, 2))) (hv := by decide)) (
   sndC (sd_bipush (hd := (by decide +kernel : decode cX11_name 126 = .ok (.bipush 103, 2))) (hv := by decide)) (
   sndC (sd_bipush (hd := (by decide +kernel : decode cX11_name 128 = .ok (.bipush 101, 2))) (hv := by decide)) (
   sndC (sd_iconst (hd := (by decide +kernel : decode cX11_name 130 = .ok (.iconst 0, 1))) (hv := by decide)) (
   sndC (sd_iconst (hd := (by decide +kernel : decode cX11_name 131 = .ok (.iconst 0, 1))) (hv := by decide)) (
   sndC (sd_iconst (hd := (by decide +kernel : decode cX11_name 132 = .ok (.iconst 0, 1))) (hv := by decide)) (
   sndC (sd_iconst (hd := (by decide +kernel : decode cX11_name 133 = .ok (.iconst 0, 1))) (hv := by decide)) (
   sndC (sd_iconst (hd := (by decide +kernel : decode cX11_name 134 = .ok (.iconst 0, 1))) (hv := by decide)) (
   sndC (sd_if_eq (ht := by decide) (hd := (by decide +kernel : decode cX11_name 138 = .ok (.ifCond .eq 8, 3)))) (
   sndC (sd_aload_n (hi := rfl) (hd := (by decide +kernel : decode cX11_name 141 = .ok (.aload_n 0, 1)))) (
   sndC (sd_get (C := RX11) (T := TX11) (N := 41) (hc := rfl) (hin0 := iX11) (hk := by decide) (hlink := w_1031) (hd := (by decide +kernel : decode cX11_name 142 = .ok (.getfield 205, 3)))) (
   sndC (sd_aload_n (hi := rfl) (hd := (by decide +kernel : decode cX11_name 146 = .ok (.aload_n 0, 1)))) (
   sndC (sd_iconst (hd := (by decide +kernel : decode cX11_name 150 = .ok (.iconst 0, 1))) (hv := by decide)) (
   sndN))))))))))))))))))))))))))))))))))))))))))))))))))))))))))))))))))))))))))⟩
theorem kX11_name_14 : CallAt mX11_name 14 0 mX11_isWord 8 := ⟨by decide +kernel, ⟨_, (by decide +kernel : decode cX11_name 14 = .ok (.invokevirtual 186, 3)), w_1200, w_1202, w_55⟩⟩
theorem kX11_name_38 : CallAt mX11_name 38 0 mX11_isWord 8 := ⟨by decide +kernel, ⟨_, (by decide +kernel : decode cX11_name 38 = .ok (.invokevirtual 186, 3)), w_1200, w_1202, w_55⟩⟩
theorem kX11_name_64 : CallAt mX11_name 64 0 mX11_isWord 8 := ⟨by decide +kernel, ⟨_, (by decide +kernel : decode cX11_name 64 = .ok (.invokevirtual 186, 3)), w_1200, w_1202, w_55⟩⟩
theorem kX11_name_88 : CallAt mX11_name 88 0 mX11_isWord 8 := ⟨by decide +kernel, ⟨_, (by decide +kernel : decode cX11_name 88 = .ok (.invokevirtual 186, 3)), w_1200, w_1202, w_55⟩⟩
theorem kX11_name_112 : CallAt mX11_name 112 0 mX11_isWord 8 := ⟨by decide +kernel, ⟨_, (by decide +kernel : decode cX11_name 112 = .ok (.invokevirtual 186, 3)), w_1200, w_1202, w_55⟩⟩
theorem kX11_name_135 : CallAt mX11_name 135 0 mX11_isWord 8 := ⟨by decide +kernel, ⟨_, (by decide +kernel : decode cX11_name 135 = .ok (.invokevirtual 186, 3)), w_1200, w_1202, w_55⟩⟩
theorem kX11_name_147 : CallAt mX11_name 147 0 mX11_fail 0 := ⟨by decide +kernel, ⟨_, (by decide +kernel : decode cX11_name 147 = .ok (.invokevirtual 180, 3)), w_1212, w_1214, w_58⟩⟩

set_option maxRecDepth 20000 in
theorem GX11_part : Good mX11_part := ⟨by decide +kernel, List.mem_of_getElem? (i := 1211) (by decide +kernel), inX11, ⟨by decide +kernel, by decide +kernel⟩, by decide, show ∀ q ∈ tX11_part, Snd mX11_part q.1 q.2 from
  sndC (sd_iload_n (hi := rfl) (hd := (by decide +kernel : decode cX11_part 0 = .ok (.iload_n 1, 1)))) (
   sndC (sd_if_ne (ht := by decide) (hd := (by decide +kernel : decode cX11_part 1 = .ok (.ifCond .ne 7, 3)))) (
   sndC (sd_aload_n (hi := rfl) (hd := (by decide +kernel : decode cX11_part 4 = .ok (.aload_n 0, 1)))) (
   sndC (sd_aload_n (hi := rfl) (hd := (by decide +kernel : decode cX11_part 8 = .ok (.aload_n 0, 1)))) (
   sndC (sd_get (C := RX11) (T := TX11) (N := 41) (hc := rfl) (hin0 := iX11) (hk := by decide) (hlink := w_1039) (hd := (by decide +kernel : decode cX11_part 9 = .ok (.getfield 167, 3)))) (
   sndC (sd_if_ne (ht := by decide) (hd := (by decide +kernel : decode cX11_part 12 = .ok (.ifCond .ne 7, 3)))) (
   sndC (sd_aload_n (hi := rfl) (hd := (by decide +kernel : decode cX11_part 15 = .ok (.aload_n 0, 1)))) (
   sndC (sd_aload_n (hi := rfl) (hd := (by decide +kernel : decode cX11_part 19 = .ok (.aload_n 0, 1)))) (
   sndC (sd_get (C := RX11) (T := TX11) (N := 41) (hc := rfl) (hin0 := iX11) (hk := by decide) (hlink := w_1039) (hd := (by decide +kernel : decode cX11_part 20 = .ok (.getfield 167, 3)))) (
   sndC (sd_if_eq (ht := by decide) (hd := (by decide +kernel : decode cX11_part 23 = .ok (.ifCond .eq 7, 3)))) (
   sndC (sd_iconst (hd := (by decide +kernel : decode cX11_part 26 = .ok (.iconst 0, 1))) (hv := by decide)) (
   sndC (sd_goto (ht := by decide) (hd := (by decide +kernel : decode cX11_part 27 = .ok (.goto 7, 3)))) (
   sndC (sd_aload_n (hi := rfl) (hd := (by decide +kernel : decode cX11_part 30 = .ok (.aload_n 0, 1)))) (
   sndC (sd_istore_n (hi := rfl) (hd := (by decide +kernel : decode cX11_part 34 = .ok (.istore_n 2, 1)))) (
   sndC (sd_aload_n (hi := rfl) (hd := (by decide +kernel : decode cX11_part 35 = .ok (.aload_n 0, 1)))) (
   sndC (sd_bipush (hd := (by decide +kernel : decode cX11_part 36 = .ok (.bipush 59, 2))) (hv := by decide)) (
   sndC (sd_if_ne (ht := by decide) (hd := (by decide +kernel : decode cX11_part 41 = .ok (.ifCond .ne 7, 3)))) (
   sndC (sd_aload_n (hi := rfl) (hd := (by decide +kernel : decode cX11_part 44 = .ok (.aload_n 0, 1)))) (
   sndC (sd_aload_n (hi := rfl) (hd := (by decide +kernel : decode cX11_part 48 = .ok (.aload_n 0, 1)))) (
   sndC (sd_get (C := RX11) (T := TX11) (N := 41) (hc := rfl) (hin0 := iX11) (hk := by decide) (hlink := w_1039) (hd := (by decide +kernel : decode cX11_part 49 = .ok (.getfield 167, 3)))) (
   sndC (sd_if_ne (ht := by decide) (hd := (by decide +kernel : decode cX11_part 52 = .ok (.ifCond .ne 7, 3)))) (
   sndC (sd_aload_n (hi := rfl) (hd := (by decide +kernel : decode cX11_part 55 = .ok (.aload_n 0, 1)))) (
   sndC (sd_iload_n (hi := rfl) (hd := (by decide +kernel : decode cX11_part 59 = .ok (.iload_n 2, 1)))) (
   sndN)))))))))))))))))))))))⟩
theorem kX11_part_5 : CallAt mX11_part 5 0 mX11_fail 0 := ⟨by decide +kernel, ⟨_, (by decide +kernel : decode cX11_part 5 = .ok (.invokevirtual 180, 3)), w_1212, w_1214, w_58⟩⟩
theorem kX11_part_16 : CallAt mX11_part 16 0 mX11_nextToken 0 := ⟨by decide +kernel, ⟨_, (by decide +kernel : decode cX11_part 16 = .ok (.invokevirtual 183, 3)), w_1188, w_1190, w_53⟩⟩
theorem kX11_part_31 : CallAt mX11_part 31 0 mX11_either0 0 := ⟨by decide +kernel, ⟨_, (by decide +kernel : decode cX11_part 31 = .ok (.invokevirtual 328, 3)), w_1216, w_1218, w_59⟩⟩
theorem kX11_part_38 : CallAt mX11_part 38 0 mX11_isSign 1 := ⟨by decide +kernel, ⟨_, (by decide +kernel : decode cX11_part 38 = .ok (.invokevirtual 208, 3)), w_1264, w_1266, w_71⟩⟩
theorem kX11_part_45 : CallAt mX11_part 45 0 mX11_fail 0 := ⟨by decide +kernel, ⟨_, (by decide +kernel : decode cX11_part 45 = .ok (.invokevirtual 180, 3)), w_1212, w_1214, w_58⟩⟩
theorem kX11_part_56 : CallAt mX11_part 56 0 mX11_nextToken 0 := ⟨by decide +kernel, ⟨_, (by decide +kernel : decode cX11_part 56 = .ok (.invokevirtual 183, 3)), w_1188, w_1190, w_53⟩⟩

set_option maxRecDepth 20000 in
theorem GX11_read : Good mX11_read := ⟨by decide +kernel, List.mem_of_getElem? (i := 1187) (by decide +kernel), inX11, ⟨by decide +kernel, by decide +kernel⟩, by decide, show ∀ q ∈ tX11_read, Snd mX11_read q.1 q.2 from
  sndC (sd_aload_n (hi := rfl) (hd := (by decide +kernel : decode cX11_read 0 = .ok (.aload_n 0, 1)))) (
   sndC (sd_sipush (hd := (by decide +kernel : decode cX11_read 1 = .ok (.sipush 160, 3))) (hv := by decide)) (
   sndC (sd_iload_n (hi := rfl) (hd := (by decide +kernel : decode cX11_read 4 = .ok (.iload_n 1, 1)))) (
   sndC (sd_imul (hd := (by decide +kernel : decode cX11_read 5 = .ok (.imul, 1)))) (
   sndC (sd_putI (C := RX11) (T := TX11) (N := 41) (hc := rfl) (hin0 := iX11) (hk := by decide) (hlink := w_1032) (ty0 := tyX11) (hty := tyX11_ok) (hnm := nmX11) (hfin := rfl) (hi := rfl) (hd := (by decide +kernel : decode cX11_read 6 = .ok (.putfield 140, 3)))) (
   sndC (sd_aload_n (hi := rfl) (hd := (by decide +kernel : decode cX11_read 9 = .ok (.aload_n 0, 1)))) (
   sndC (sd_aload_n (hi := rfl) (hd := (by decide +kernel : decode cX11_read 10 = .ok (.aload_n 0, 1)))) (
   sndC (sd_get (C := RX11) (T := TX11) (N := 41) (hc := rfl) (hin0 := iX11) (hk := by decide) (hlink := w_1016) (hd := (by decide +kernel : decode cX11_read 11 = .ok (.getfield 17, 3)))) (
   sndC (sd_iload_n (hi := rfl) (hd := (by decide +kernel : decode cX11_read 14 = .ok (.iload_n 1, 1)))) (
   sndC (sd_iald (hd := (by decide +kernel : decode cX11_read 15 = .ok (.iaload, 1)))) (
   sndC (sd_putI (C := RX11) (T := TX11) (N := 41) (hc := rfl) (hin0 := iX11) (hk := by decide) (hlink := w_1033) (ty0 := tyX11) (hty := tyX11_ok) (hnm := nmX11) (hfin := rfl) (hi := rfl) (hd := (by decide +kernel : decode cX11_read 16 = .ok (.putfield 137, 3)))) (
   sndC (sd_aload_n (hi := rfl) (hd := (by decide +kernel : decode cX11_read 19 = .ok (.aload_n 0, 1)))) (
   sndC (sd_iconst (hd := (by decide +kernel : decode cX11_read 20 = .ok (.iconst 0, 1))) (hv := by decide)) (
   sndC (sd_putI (C := RX11) (T := TX11) (N := 41) (hc := rfl) (hin0 := iX11) (hk := by decide) (hlink := w_1034) (ty0 := tyX11) (hty := tyX11_ok) (hnm := nmX11) (hfin := rfl) (hi := rfl) (hd := (by decide +kernel : decode cX11_read 21 = .ok (.putfield 143, 3)))) (
   sndC (sd_aload_n (hi := rfl) (hd := (by decide +kernel : decode cX11_read 24 = .ok (.aload_n 0, 1)))) (
   sndC (sd_iconst (hd := (by decide +kernel : decode cX11_read 25 = .ok (.iconst 0, 1))) (hv := by decide)) (
   sndC (sd_putI (C := RX11) (T := TX11) (N := 41) (hc := rfl) (hin0 := iX11) (hk := by decide) (hlink := w_1038) (ty0 := tyX11) (hty := tyX11_ok) (hnm := nmX11) (hfin := rfl) (hi := rfl) (hd := (by decide +kernel : decode cX11_read 26 = .ok (.putfield 177, 3)))) (
   sndC (sd_aload_n (hi := rfl) (hd := (by decide +kernel : decode cX11_read 29 = .ok (.aload_n 0, 1)))) (
   sndC (sd_iconst (hd := (by decide +kernel : decode cX11_read 30 = .ok (.iconst 0, 1))) (hv := by decide)) (
   sndC (sd_putZ (C := RX11) (T := TX11) (N := 41) (hc := rfl) (hin0 := iX11) (hk := by decide) (hlink := w_1039) (ty0 := tyX11) (hty := tyX11_ok) (hnm := nmX11) (hfin := rfl) (hi := rfl) (hd := (by decide +kernel : decode cX11_read 31 = .ok (.putfield 167, 3)))) (
   sndC (sd_aload_n (hi := rfl) (hd := (by decide +kernel : decode cX11_read 34 = .ok (.aload_n 0, 1)))) (
   sndC (sd_aload_n (hi := rfl) (hd := (by decide +kernel : decode cX11_read 38 = .ok (.aload_n 0, 1)))) (
   sndC (sd_aload_n (hi := rfl) (hd := (by decide +kernel : decode cX11_read 39 = .ok (.aload_n 0, 1)))) (
   sndC (sd_bipush (hd := (by decide +kernel : decode cX11_read 40 = .ok (.bipush 115, 2))) (hv := by decide)) (
   sndC (sd_bipush (hd := (by decide +kernel : decode cX11_read 42 = .ok (.bipush 104, 2))) (hv := by decide)) (
   sndC (sd_bipush (hd := (by decide +kernel : decode cX11_read 44 = .ok (.bipush 97, 2))) (hv := by decide)) (
   sndC (sd_bipush (hd := (by decide +kernel : decode cX11_read 46 = .ok (.bipush 109, 2))) (hv := by decide)) (
   sndC (sd_bipush (hd := (by decide +kernel : decode cX11_read 48 = .ok (.bipush 101, 2))) (hv := by decide)) (
   sndC (sd_bipush (hd := (by decide +kernel : decode cX11_read 50 = .ok (.bipush 115, 2))) (hv := by decide)) (
   sndC (sd_iconst (hd := (by decide +kernel : decode cX11_read 52 = .ok (.iconst 0, 1))) (hv := by decide)) (
   sndC (sd_iconst (hd := (by decide +kernel : decode cX11_read 53 = .ok (.iconst 0, 1))) (hv := by decide)) (
   sndC (sd_istore_n (hi := rfl) (hd := (by decide +kernel : decode cX11_read 60 = .ok (.istore_n 3, 1)))) (
   sndC (sd_aload_n (hi := rfl) (hd := (by decide +kernel : decode cX11_read 61 = .ok (.aload_n 0, 1)))) (
   sndC (sd_get (C := RX11) (T := TX11) (N := 41) (hc := rfl) (hin0 := iX11) (hk := by decide) (hlink := w_1039) (hd := (by decide +kernel : decode cX11_read 62 = .ok (.getfield 167, 3)))) (
   sndC (sd_if_eq (ht := by decide) (hd := (by decide +kernel : decode cX11_read 65 = .ok (.ifCond .eq 7, 3)))) (
   sndC (sd_iconst (hd := (by decide +kernel : decode cX11_read 68 = .ok (.iconst 0, 1))) (hv := by decide)) (
   sndC (sd_goto (ht := by decide) (hd := (by decide +kernel : decode cX11_read 69 = .ok (.goto 24, 3)))) (
   sndC (sd_aload_n (hi := rfl) (hd := (by decide +kernel : decode cX11_read 72 = .ok (.aload_n 0, 1)))) (
   sndC (sd_aload_n (hi := rfl) (hd := (by decide +kernel : decode cX11_read 73 = .ok (.aload_n 0, 1)))) (
   sndC (sd_bipush (hd := (by decide +kernel : decode cX11_read 74 = .ok (.bipush 99, 2))) (hv := by decide)) (
   sndC (sd_bipush (hd := (by decide +kernel : decode cX11_read 76 = .ok (.bipush 111, 2))) (hv := by decide)) (
   sndC (sd_bipush (hd := (by decide +kernel : decode cX11_read 78 = .ok (.bipush 115, 2))) (hv := by decide)) (
   sndC (sd_bipush (hd := (by decide +kernel : decode cX11_read 80 = .ok (.bipush 116, 2))) (hv := by decide)) (
   sndC (sd_bipush (hd := (by decide +kernel : decode cX11_read 82 = .ok (.bipush 115, 2))) (hv := by decide)) (
   sndC (sd_iconst (hd := (by decide +kernel : decode cX11_read 84 = .ok (.iconst 0, 1))) (hv := by decide)) (
   sndC (sd_iconst (hd := (by decide +kernel : decode cX11_read 85 = .ok (.iconst 0, 1))) (hv := by decide)) (
   sndC (sd_iconst (hd := (by decide +kernel : decode cX11_read 86 = .ok (.iconst 0, 1))) (hv := by decide)) (
   sndC (sd_istore (hd := (by decide +kernel : decode cX11_read 93 = .ok (.istore 4, 2)))) (
   sndC (sd_aload_n (hi := rfl) (hd := (by decide +kernel : decode cX11_read 95 = .ok (.aload_n 0, 1)))) (
   sndC (sd_get (C := RX11) (T := TX11) (N := 41) (hc := rfl) (hin0 := iX11) (hk := by decide) (hlink := w_1039) (hd := (by decide +kernel : decode cX11_read 96 = .ok (.getfield 167, 3)))) (
   sndC (sd_if_eq (ht := by decide) (hd := (by decide +kernel : decode cX11_read 99 = .ok (.ifCond .eq 7, 3)))) (
   sndC (sd_iconst (hd := (by decide +kernel : decode cX11_read 102 = .ok (.iconst 0, 1))) (hv := by decide)) (
   sndC (sd_goto (ht := by decide) (hd := (by decide +kernel : decode cX11_read 103 = .ok (.goto 24, 3)))) (
   sndC (sd_aload_n (hi := rfl) (hd := (by decide +kernel : decode cX11_read 106 = .ok (.aload_n 0, 1)))) (
   sndC (sd_aload_n (hi := rfl) (hd := (by decide +kernel : decode cX11_read 107 = .ok (.aload_n 0, 1)))) (
   sndC (sd_bipush (hd := (by decide +kernel : decode cX11_read 108 = .ok (.bipush 119, 2))) (hv := by decide)) (
   sndC (sd_bipush (hd := (by decide +kernel : decode cX11_read 110 = .ok (.bipush 111, 2))) (hv := by decide)) (
   sndC (sd_bipush (hd := (by decide +kernel : decode cX11_read 112 = .ok (.bipush 114, 2))) (hv := by decide)) (
   sndC (sd_bipush (hd := (by decide +kernel : decode cX11_read 114 = .ok (.bipush 116, 2))) (hv := by decide)) (
   sndC (sd_bipush (hd := (by decide +kernel : decode cX11_read 116 = .ok (.bipush 104, 2))) (hv := by decide)) (
   sndC (sd_iconst (hd := (by decide +kernel : decode cX11_read 118 = .ok (.iconst 0, 1))) (hv := by decide)) (
   sndC (sd_iconst (hd := (by decide +kernel : decode cX11_read 119 = .ok (.iconst 0, 1))) (hv := by decide)) (
   sndC (sd_iconst (hd := (by decide +kernel : decode cX11_read 120 = .ok (.iconst 0, 1))) (hv := by decide)) (
   sndC (sd_istore (hd := (by decide +kernel : decode cX11_read 127 = .ok (.istore 5, 2)))) (
   sndC (sd_aload_n (hi := rfl) (hd := (by decide +kernel : decode cX11_read 129 = .ok (.aload_n 0, 1)))) (
   sndC (sd_get (C := RX11) (T := TX11) (N := 41) (hc := rfl) (hin0 := iX11) (hk := by decide) (hlink := w_1039) (hd := (by decide +kernel : decode cX11_read 130 = .ok (.getfield 167, 3)))) (
   sndC (sd_if_ne (ht := by decide) (hd := (by decide +kernel : decode cX11_read 133 = .ok (.ifCond .ne 14, 3)))) (
   sndC (sd_aload_n (hi := rfl) (hd := (by decide +kernel : decode cX11_read 136 = .ok (.aload_n 0, 1)))) (
   sndC (sd_get (C := RX11) (T := TX11) (N := 41) (hc := rfl) (hin0 := iX11) (hk := by decide) (hlink := w_1035) (hd := (by decide +kernel : decode cX11_read 137 = .ok (.getfield 152, 3)))) (
   sndC (sd_if_eq (ht := by decide) (hd := (by decide +kernel : decode cX11_read 140 = .ok (.ifCond .eq 7, 3)))) (
   sndC (sd_aload_n (hi := rfl) (hd := (by decide +kernel : decode cX11_read 143 = .ok (.aload_n 0, 1)))) (
   sndC (sd_iload_n (hi := rfl) (hd := (by decide +kernel : decode cX11_read 147 = .ok (.iload_n 2, 1)))) (
   sndC (sd_if_ne (ht := by decide) (hd := (by decide +kernel : decode cX11_read 148 = .ok (.ifCond .ne 7, 3)))) (
   sndC (sd_iload_n (hi := rfl) (hd := (by decide +kernel : decode cX11_read 151 = .ok (.iload_n 3, 1)))) (
   sndC (sd_goto (ht := by decide) (hd := (by decide +kernel : decode cX11_read 152 = .ok (.goto 15, 3)))) (
   sndC (sd_iload_n (hi := rfl) (hd := (by decide +kernel : decode cX11_read 155 = .ok (.iload_n 2, 1)))) (
   sndC (sd_iconst (hd := (by decide +kernel : decode cX11_read 156 = .ok (.iconst 1, 1))) (hv := by decide)) (
   sndC (sd_cmp_ne (ht := by decide) (hd := (by decide +kernel : decode cX11_read 157 = .ok (.if_icmp .ne 8, 3)))) (
   sndC (sd_iload (hd := (by decide +kernel : decode cX11_read 160 = .ok (.iload 4, 2)))) (
   sndC (sd_goto (ht := by decide) (hd := (by decide +kernel : decode cX11_read 162 = .ok (.goto 5, 3)))) (
   sndC (sd_iload (hd := (by decide +kernel : decode cX11_read 165 = .ok (.iload 5, 2)))) (
   sndN)))))))))))))))))))))))))))))))))))))))))))))))))))))))))))))))))))))))))))))))))⟩
theorem kX11_read_35 : CallAt mX11_read 35 0 mX11_nextToken 0 := ⟨by decide +kernel, ⟨_, (by decide +kernel : decode cX11_read 35 = .ok (.invokevirtual 183, 3)), w_1188, w_1190, w_53⟩⟩
theorem kX11_read_54 : CallAt mX11_read 54 0 mX11_isWord 8 := ⟨by decide +kernel, ⟨_, (by decide +kernel : decode cX11_read 54 = .ok (.invokevirtual 186, 3)), w_1200, w_1202, w_55⟩⟩
theorem kX11_read_57 : CallAt mX11_read 57 0 mX11_part 1 := ⟨by decide +kernel, ⟨_, (by decide +kernel : decode cX11_read 57 = .ok (.invokevirtual 331, 3)), w_1208, w_1210, w_57⟩⟩
theorem kX11_read_87 : CallAt mX11_read 87 0 mX11_isWord 8 := ⟨by decide +kernel, ⟨_, (by decide +kernel : decode cX11_read 87 = .ok (.invokevirtual 186, 3)), w_1200, w_1202, w_55⟩⟩
theorem kX11_read_90 : CallAt mX11_read 90 0 mX11_part 1 := ⟨by decide +kernel, ⟨_, (by decide +kernel : decode cX11_read 90 = .ok (.invokevirtual 331, 3)), w_1208, w_1210, w_57⟩⟩
theorem kX11_read_121 : CallAt mX11_read 121 0 mX11_isWord 8 := ⟨by decide +kernel, ⟨_, (by decide +kernel : decode cX11_read 121 = .ok (.invokevirtual 186, 3)), w_1200, w_1202, w_55⟩⟩
theorem kX11_read_124 : CallAt mX11_read 124 0 mX11_part 1 := ⟨by decide +kernel, ⟨_, (by decide +kernel : decode cX11_read 124 = .ok (.invokevirtual 331, 3)), w_1208, w_1210, w_57⟩⟩
theorem kX11_read_144 : CallAt mX11_read 144 0 mX11_fail 0 := ⟨by decide +kernel, ⟨_, (by decide +kernel : decode cX11_read 144 = .ok (.invokevirtual 180, 3)), w_1212, w_1214, w_58⟩⟩

set_option maxRecDepth 20000 in
theorem GX11_text : Good mX11_text := ⟨by decide +kernel, List.mem_of_getElem? (i := 1400) (by decide +kernel), inX11, ⟨by decide +kernel, by decide +kernel⟩, by decide, show ∀ q ∈ tX11_text, Snd mX11_text q.1 q.2 from
  sndC (sd_aload_n (hi := rfl) (hd := (by decide +kernel : decode cX11_text 0 = .ok (.aload_n 0, 1)))) (
   sndC (sd_get (C := RX11) (T := TX11) (N := 41) (hc := rfl) (hin0 := iX11) (hk := by decide) (hlink := w_1017) (hd := (by decide +kernel : decode cX11_text 1 = .ok (.getfield 76, 3)))) (
   sndC (sd_bipush (hd := (by decide +kernel : decode cX11_text 4 = .ok (.bipush 6, 2))) (hv := by decide)) (
   sndC (sd_cmp_ne (ht := by decide) (hd := (by decide +kernel : decode cX11_text 6 = .ok (.if_icmp .ne 6, 3)))) (
   sndC (sd_bipush (hd := (by decide +kernel : decode cX11_text 9 = .ok (.bipush (-4), 2))) (hv := by decide)) (
   sndC (sd_iconst (hd := (by decide +kernel : decode cX11_text 12 = .ok (.iconst 0, 1))) (hv := by decide)) (
   sndC (sd_istore_n (hi := rfl) (hd := (by decide +kernel : decode cX11_text 13 = .ok (.istore_n 1, 1)))) (
   sndC (sd_iload_n (hi := rfl) (hd := (by decide +kernel : decode cX11_text 14 = .ok (.iload_n 1, 1)))) (
   sndC (sd_aload_n (hi := rfl) (hd := (by decide +kernel : decode cX11_text 15 = .ok (.aload_n 0, 1)))) (
   sndC (sd_get (C := RX11) (T := TX11) (N := 41) (hc := rfl) (hin0 := iX11) (hk := by decide) (hlink := w_1020) (hd := (by decide +kernel : decode cX11_text 16 = .ok (.getfield 134, 3)))) (
   sndC (sd_cmp_ge (ht := by decide) (hd := (by decide +kernel : decode cX11_text 19 = .ok (.if_icmp .ge 30, 3)))) (
   sndC (sd_aload_n (hi := rfl) (hd := (by decide +kernel : decode cX11_text 22 = .ok (.aload_n 0, 1)))) (
   sndC (sd_get (C := RX11) (T := TX11) (N := 41) (hc := rfl) (hin0 := iX11) (hk := by decide) (hlink := w_1015) (hd := (by decide +kernel : decode cX11_text 23 = .ok (.getfield 13, 3)))) (
   sndC (sd_sipush (hd := (by decide +kernel : decode cX11_text 26 = .ok (.sipush 160, 3))) (hv := by decide)) (
   sndC (sd_aload_n (hi := rfl) (hd := (by decide +kernel : decode cX11_text 29 = .ok (.aload_n 0, 1)))) (
   sndC (sd_get (C := RX11) (T := TX11) (N := 41) (hc := rfl) (hin0 := iX11) (hk := by decide) (hlink := w_1017) (hd := (by decide +kernel : decode cX11_text 30 = .ok (.getfield 76, 3)))) (
   sndC (sd_imul (hd := (by decide +kernel : decode cX11_text 33 = .ok (.imul, 1)))) (
   sndC (sd_iload_n (hi := rfl) (hd := (by decide +kernel : decode cX11_text 34 = .ok (.iload_n 1, 1)))) (
   sndC (sd_iadd (hd := (by decide +kernel : decode cX11_text 35 = .ok (.iadd, 1)))) (
   sndC (sd_aload_n (hi := rfl) (hd := (by decide +kernel : decode cX11_text 36 = .ok (.aload_n 0, 1)))) (
   sndC (sd_get (C := RX11) (T := TX11) (N := 41) (hc := rfl) (hin0 := iX11) (hk := by decide) (hlink := w_1019) (hd := (by decide +kernel : decode cX11_text 37 = .ok (.getfield 20, 3)))) (
   sndC (sd_iload_n (hi := rfl) (hd := (by decide +kernel : decode cX11_text 40 = .ok (.iload_n 1, 1)))) (
   sndC (sd_iald (hd := (by decide +kernel : decode cX11_text 41 = .ok (.iaload, 1)))) (
   sndC (sd_iast (hd := (by decide +kernel : decode cX11_text 42 = .ok (.iastore, 1)))) (
   sndC (sd_iinc (hv := by decide) (hd := (by decide +kernel : decode cX11_text 43 = .ok (.iinc 1 1, 3)))) (
   sndC (sd_goto (ht := by decide) (hd := (by decide +kernel : decode cX11_text 46 = .ok (.goto (-32), 3)))) (
   sndC (sd_aload_n (hi := rfl) (hd := (by decide +kernel : decode cX11_text 49 = .ok (.aload_n 0, 1)))) (
   sndC (sd_get (C := RX11) (T := TX11) (N := 41) (hc := rfl) (hin0 := iX11) (hk := by decide) (hlink := w_1016) (hd := (by decide +kernel : decode cX11_text 50 = .ok (.getfield 17, 3)))) (
   sndC (sd_aload_n (hi := rfl) (hd := (by decide +kernel : decode cX11_text 53 = .ok (.aload_n 0, 1)))) (
   sndC (sd_get (C := RX11) (T := TX11) (N := 41) (hc := rfl) (hin0 := iX11) (hk := by decide) (hlink := w_1017) (hd := (by decide +kernel : decode cX11_text 54 = .ok (.getfield 76, 3)))) (
   sndC (sd_aload_n (hi := rfl) (hd := (by decide +kernel : decode cX11_text 57 = .ok (.aload_n 0, 1)))) (
   sndC (sd_get (C := RX11) (T := TX11) (N := 41) (hc := rfl) (hin0 := iX11) (hk := by decide) (hlink := w_1020) (hd := (by decide +kernel : decode cX11_text 58 = .ok (.getfield 134, 3)))) (
   sndC (sd_iast (hd := (by decide +kernel : decode cX11_text 61 = .ok (.iastore, 1)))) (
   sndC (sd_aload_n (hi := rfl) (hd := (by decide +kernel : decode cX11_text 62 = .ok (.aload_n 0, 1)))) (
   sndC (sd_iconst (hd := (by decide +kernel : decode cX11_text 63 = .ok (.iconst 0, 1))) (hv := by decide)) (
   sndC (sd_putI (C := RX11) (T := TX11) (N := 41) (hc := rfl) (hin0 := iX11) (hk := by decide) (hlink := w_1020) (ty0 := tyX11) (hty := tyX11_ok) (hnm := nmX11) (hfin := rfl) (hi := rfl) (hd := (by decide +kernel : decode cX11_text 64 = .ok (.putfield 134, 3)))) (
   sndC (sd_aload_n (hi := rfl) (hd := (by decide +kernel : decode cX11_text 67 = .ok (.aload_n 0, 1)))) (
   sndC (sd_aload_n (hi := rfl) (hd := (by decide +kernel : decode cX11_text 68 = .ok (.aload_n 0, 1)))) (
   sndC (sd_get (C := RX11) (T := TX11) (N := 41) (hc := rfl) (hin0 := iX11) (hk := by decide) (hlink := w_1017) (hd := (by decide +kernel : decode cX11_text 69 = .ok (.getfield 76, 3)))) (
   sndC (sd_iconst (hd := (by decide +kernel : decode cX11_text 72 = .ok (.iconst 0, 1))) (hv := by decide)) (
   sndC (sd_istore_n (hi := rfl) (hd := (by decide +kernel : decode cX11_text 76 = .ok (.istore_n 1, 1)))) (
   sndC (sd_aload_n (hi := rfl) (hd := (by decide +kernel : decode cX11_text 77 = .ok (.aload_n 0, 1)))) (
   sndC (sd_get (C := RX11) (T := TX11) (N := 41) (hc := rfl) (hin0 := iX11) (hk := by decide) (hlink := w_1039) (hd := (by decide +kernel : decode cX11_text 78 = .ok (.getfield 167, 3)))) (
   sndC (sd_if_eq (ht := by decide) (hd := (by decide +kernel : decode cX11_text 81 = .ok (.ifCond .eq 11, 3)))) (
   sndC (sd_bipush (hd := (by decide +kernel : decode cX11_text 84 = .ok (.bipush (-100), 2))) (hv := by decide)) (
   sndC (sd_aload_n (hi := rfl) (hd := (by decide +kernel : decode cX11_text 86 = .ok (.aload_n 0, 1)))) (
   sndC (sd_get (C := RX11) (T := TX11) (N := 41) (hc := rfl) (hin0 := iX11) (hk := by decide) (hlink := w_1040) (hd := (by decide +kernel : decode cX11_text 87 = .ok (.getfield 171, 3)))) (
   sndC (sd_isub (hd := (by decide +kernel : decode cX11_text 90 = .ok (.isub, 1)))) (
   sndC (sd_aload_n (hi := rfl) (hd := (by decide +kernel : decode cX11_text 92 = .ok (.aload_n 0, 1)))) (
   sndC (sd_dup (hd := (by decide +kernel : decode cX11_text 93 = .ok (.dup, 1)))) (
   sndC (sd_get (C := RX11) (T := TX11) (N := 41) (hc := rfl) (hin0 := iX11) (hk := by decide) (hlink := w_1017) (hd := (by decide +kernel : decode cX11_text 94 = .ok (.getfield 76, 3)))) (
   sndC (sd_iconst (hd := (by decide +kernel : decode cX11_text 97 = .ok (.iconst 1, 1))) (hv := by decide)) (
   sndC (sd_iadd (hd := (by decide +kernel : decode cX11_text 98 = .ok (.iadd, 1)))) (
   sndC (sd_putI (C := RX11) (T := TX11) (N := 41) (hc := rfl) (hin0 := iX11) (hk := by decide) (hlink := w_1017) (ty0 := tyX11) (hty := tyX11_ok) (hnm := nmX11) (hfin := rfl) (hi := rfl) (hd := (by decide +kernel : decode cX11_text 99 = .ok (.putfield 76, 3)))) (
   sndC (sd_aload_n (hi := rfl) (hd := (by decide +kernel : decode cX11_text 102 = .ok (.aload_n 0, 1)))) (
   sndC (sd_get (C := RX11) (T := TX11) (N := 41) (hc := rfl) (hin0 := iX11) (hk := by decide) (hlink := w_1017) (hd := (by decide +kernel : decode cX11_text 103 = .ok (.getfield 76, 3)))) (
   sndC (sd_iconst (hd := (by decide +kernel : decode cX11_text 106 = .ok (.iconst 1, 1))) (hv := by decide)) (
   sndC (sd_isub (hd := (by decide +kernel : decode cX11_text 107 = .ok (.isub, 1)))) (
   sndN))))))))))))))))))))))))))))))))))))))))))))))))))))))))))⟩
theorem kX11_text_73 : CallAt mX11_text 73 0 mX11_read 2 := ⟨by decide +kernel, ⟨_, (by decide +kernel : decode cX11_text 73 = .ok (.invokevirtual 335, 3)), w_1184, w_1186, w_52⟩⟩

set_option maxRecDepth 20000 in
theorem GX11_force : Good mX11_force := ⟨by decide +kernel, List.mem_of_getElem? (i := 1404) (by decide +kernel), inX11, ⟨by decide +kernel, by decide +kernel⟩, by decide, show ∀ q ∈ tX11_force, Snd mX11_force q.1 q.2 from
  sndC (sd_iload_n (hi := rfl) (hd := (by decide +kernel : decode cX11_force 0 = .ok (.iload_n 1, 1)))) (
   sndC (sd_i2l (hd := (by decide +kernel : decode cX11_force 1 = .ok (.i2l, 1)))) (
   sndC (sd_lconst (hd := (by decide +kernel : decode cX11_force 2 = .ok (.lconst 0, 1))) (hv := by decide)) (
   sndC (sd_aload_n (hi := rfl) (hd := (by decide +kernel : decode cX11_force 3 = .ok (.aload_n 0, 1)))) (
   sndC (sd_get (C := RX11) (T := TX11) (N := 41) (hc := rfl) (hin0 := iX11) (hk := by decide) (hlink := w_1017) (hd := (by decide +kernel : decode cX11_force 4 = .ok (.getfield 76, 3)))) (
   sndC (sd_iconst (hd := (by decide +kernel : decode cX11_force 7 = .ok (.iconst 1, 1))) (hv := by decide)) (
   sndC (sd_isub (hd := (by decide +kernel : decode cX11_force 8 = .ok (.isub, 1)))) (
   sndC (sd_i2l (hd := (by decide +kernel : decode cX11_force 9 = .ok (.i2l, 1)))) (
   sndC (sd_if_ne (ht := by decide) (hd := (by decide +kernel : decode cX11_force 13 = .ok (.ifCond .ne 6, 3)))) (
   sndC (sd_bipush (hd := (by decide +kernel : decode cX11_force 16 = .ok (.bipush (-2), 2))) (hv := by decide)) (
   sndC (sd_aload_n (hi := rfl) (hd := (by decide +kernel : decode cX11_force 19 = .ok (.aload_n 0, 1)))) (
   sndC (sd_get (C := RX11) (T := TX11) (N := 41) (hc := rfl) (hin0 := iX11) (hk := by decide) (hlink := w_1018) (hd := (by decide +kernel : decode cX11_force 20 = .ok (.getfield 113, 3)))) (
   sndC (sd_istore_n (hi := rfl) (hd := (by decide +kernel : decode cX11_force 23 = .ok (.istore_n 2, 1)))) (
   sndC (sd_aload_n (hi := rfl) (hd := (by decide +kernel : decode cX11_force 24 = .ok (.aload_n 0, 1)))) (
   sndC (sd_iload_n (hi := rfl) (hd := (by decide +kernel : decode cX11_force 25 = .ok (.iload_n 1, 1)))) (
   sndC (sd_putI (C := RX11) (T := TX11) (N := 41) (hc := rfl) (hin0 := iX11) (hk := by decide) (hlink := w_1018) (ty0 := tyX11) (hty := tyX11_ok) (hnm := nmX11) (hfin := rfl) (hi := rfl) (hd := (by decide +kernel : decode cX11_force 26 = .ok (.putfield 113, 3)))) (
   sndC (sd_iload_n (hi := rfl) (hd := (by decide +kernel : decode cX11_force 29 = .ok (.iload_n 2, 1)))) (
   sndN)))))))))))))))))⟩
theorem kX11_force_10 : CallAt mX11_force 10 1 mX11_in 3 := ⟨by decide +kernel, ⟨_, (by decide +kernel : decode cX11_force 10 = .ok (.invokestatic 82, 3)), w_1144, w_1145⟩⟩

set_option maxRecDepth 20000 in
theorem GX11_bitsOf : Good mX11_bitsOf := ⟨by decide +kernel, List.mem_of_getElem? (i := 1183) (by decide +kernel), inX11, ⟨by decide +kernel, by decide +kernel⟩, by decide, show ∀ q ∈ tX11_bitsOf, Snd mX11_bitsOf q.1 q.2 from
  sndC (sd_iconst (hd := (by decide +kernel : decode cX11_bitsOf 0 = .ok (.iconst 0, 1))) (hv := by decide)) (
   sndC (sd_istore_n (hi := rfl) (hd := (by decide +kernel : decode cX11_bitsOf 1 = .ok (.istore_n 1, 1)))) (
   sndC (sd_iload_n (hi := rfl) (hd := (by decide +kernel : decode cX11_bitsOf 2 = .ok (.iload_n 0, 1)))) (
   sndC (sd_istore_n (hi := rfl) (hd := (by decide +kernel : decode cX11_bitsOf 3 = .ok (.istore_n 2, 1)))) (
   sndC (sd_iload_n (hi := rfl) (hd := (by decide +kernel : decode cX11_bitsOf 4 = .ok (.iload_n 2, 1)))) (
   sndC (sd_if_eq (ht := by decide) (hd := (by decide +kernel : decode cX11_bitsOf 5 = .ok (.ifCond .eq 15, 3)))) (
   sndC (sd_iinc (hv := by decide) (hd := (by decide +kernel : decode cX11_bitsOf 8 = .ok (.iinc 1 1, 3)))) (
   sndC (sd_iload_n (hi := rfl) (hd := (by decide +kernel : decode cX11_bitsOf 11 = .ok (.iload_n 2, 1)))) (
   sndC (sd_iload_n (hi := rfl) (hd := (by decide +kernel : decode cX11_bitsOf 12 = .ok (.iload_n 2, 1)))) (
   sndC (sd_iconst (hd := (by decide +kernel : decode cX11_bitsOf 13 = .ok (.iconst 1, 1))) (hv := by decide)) (
   sndC (sd_isub (hd := (by decide +kernel : decode cX11_bitsOf 14 = .ok (.isub, 1)))) (
   sndC (sd_iand (hd := (by decide +kernel : decode cX11_bitsOf 15 = .ok (.iand, 1)))) (
   sndC (sd_istore_n (hi := rfl) (hd := (by decide +kernel : decode cX11_bitsOf 16 = .ok (.istore_n 2, 1)))) (
   sndC (sd_goto (ht := by decide) (hd := (by decide +kernel : decode cX11_bitsOf 17 = .ok (.goto (-13), 3)))) (
   sndC (sd_iload_n (hi := rfl) (hd := (by decide +kernel : decode cX11_bitsOf 20 = .ok (.iload_n 1, 1)))) (
   sndN)))))))))))))))⟩


set_option maxRecDepth 20000 in
theorem GX11_asks : Good mX11_asks := ⟨by decide +kernel, List.mem_of_getElem? (i := 1180) (by decide +kernel), inX11, ⟨by decide +kernel, by decide +kernel⟩, by decide, show ∀ q ∈ tX11_asks, Snd mX11_asks q.1 q.2 from
  sndC (sd_aload_n (hi := rfl) (hd := (by decide +kernel : decode cX11_asks 0 = .ok (.aload_n 0, 1)))) (
   sndC (sd_iload (hd := (by decide +kernel : decode cX11_asks 1 = .ok (.iload 4, 2)))) (
   sndC (sd_putI (C := RX11) (T := TX11) (N := 41) (hc := rfl) (hin0 := iX11) (hk := by decide) (hlink := w_1026) (ty0 := tyX11) (hty := tyX11_ok) (hnm := nmX11) (hfin := rfl) (hi := rfl) (hd := (by decide +kernel : decode cX11_asks 3 = .ok (.putfield 190, 3)))) (
   sndC (sd_aload_n (hi := rfl) (hd := (by decide +kernel : decode cX11_asks 6 = .ok (.aload_n 0, 1)))) (
   sndC (sd_iload_n (hi := rfl) (hd := (by decide +kernel : decode cX11_asks 7 = .ok (.iload_n 3, 1)))) (
   sndC (sd_putI (C := RX11) (T := TX11) (N := 41) (hc := rfl) (hin0 := iX11) (hk := by decide) (hlink := w_1027) (ty0 := tyX11) (hty := tyX11_ok) (hnm := nmX11) (hfin := rfl) (hi := rfl) (hd := (by decide +kernel : decode cX11_asks 8 = .ok (.putfield 193, 3)))) (
   sndC (sd_aload_n (hi := rfl) (hd := (by decide +kernel : decode cX11_asks 11 = .ok (.aload_n 0, 1)))) (
   sndC (sd_iload_n (hi := rfl) (hd := (by decide +kernel : decode cX11_asks 12 = .ok (.iload_n 2, 1)))) (
   sndC (sd_iconst (hd := (by decide +kernel : decode cX11_asks 13 = .ok (.iconst (-1), 1))) (hv := by decide)) (
   sndC (sd_cmp_ne (ht := by decide) (hd := (by decide +kernel : decode cX11_asks 14 = .ok (.if_icmp .ne 7, 3)))) (
   sndC (sd_iconst (hd := (by decide +kernel : decode cX11_asks 17 = .ok (.iconst 0, 1))) (hv := by decide)) (
   sndC (sd_goto (ht := by decide) (hd := (by decide +kernel : decode cX11_asks 18 = .ok (.goto 11, 3)))) (
   sndC (sd_aload_n (hi := rfl) (hd := (by decide +kernel : decode cX11_asks 21 = .ok (.aload_n 0, 1)))) (
   sndC (sd_get (C := RX11) (T := TX11) (N := 41) (hc := rfl) (hin0 := iX11) (hk := by decide) (hlink := w_1024) (hd := (by decide +kernel : decode cX11_asks 22 = .ok (.getfield 32, 3)))) (
   sndC (sd_iconst (hd := (by decide +kernel : decode cX11_asks 25 = .ok (.iconst 3, 1))) (hv := by decide)) (
   sndC (sd_iload_n (hi := rfl) (hd := (by decide +kernel : decode cX11_asks 26 = .ok (.iload_n 2, 1)))) (
   sndC (sd_imul (hd := (by decide +kernel : decode cX11_asks 27 = .ok (.imul, 1)))) (
   sndC (sd_iald (hd := (by decide +kernel : decode cX11_asks 28 = .ok (.iaload, 1)))) (
   sndC (sd_putI (C := RX11) (T := TX11) (N := 41) (hc := rfl) (hin0 := iX11) (hk := by decide) (hlink := w_1028) (ty0 := tyX11) (hty := tyX11_ok) (hnm := nmX11) (hfin := rfl) (hi := rfl) (hd := (by decide +kernel : decode cX11_asks 29 = .ok (.putfield 196, 3)))) (
   sndC (sd_aload_n (hi := rfl) (hd := (by decide +kernel : decode cX11_asks 32 = .ok (.aload_n 0, 1)))) (
   sndC (sd_iload (hd := (by decide +kernel : decode cX11_asks 33 = .ok (.iload 5, 2)))) (
   sndC (sd_putI (C := RX11) (T := TX11) (N := 41) (hc := rfl) (hin0 := iX11) (hk := by decide) (hlink := w_1029) (ty0 := tyX11) (hty := tyX11_ok) (hnm := nmX11) (hfin := rfl) (hi := rfl) (hd := (by decide +kernel : decode cX11_asks 35 = .ok (.putfield 199, 3)))) (
   sndC (sd_aload_n (hi := rfl) (hd := (by decide +kernel : decode cX11_asks 38 = .ok (.aload_n 0, 1)))) (
   sndC (sd_iload_n (hi := rfl) (hd := (by decide +kernel : decode cX11_asks 39 = .ok (.iload_n 2, 1)))) (
   sndC (sd_iconst (hd := (by decide +kernel : decode cX11_asks 40 = .ok (.iconst (-1), 1))) (hv := by decide)) (
   sndC (sd_cmp_ne (ht := by decide) (hd := (by decide +kernel : decode cX11_asks 41 = .ok (.if_icmp .ne 7, 3)))) (
   sndC (sd_iconst (hd := (by decide +kernel : decode cX11_asks 44 = .ok (.iconst 0, 1))) (hv := by decide)) (
   sndC (sd_goto (ht := by decide) (hd := (by decide +kernel : decode cX11_asks 45 = .ok (.goto 16, 3)))) (
   sndC (sd_aload_n (hi := rfl) (hd := (by decide +kernel : decode cX11_asks 48 = .ok (.aload_n 0, 1)))) (
   sndC (sd_get (C := RX11) (T := TX11) (N := 41) (hc := rfl) (hin0 := iX11) (hk := by decide) (hlink := w_1024) (hd := (by decide +kernel : decode cX11_asks 49 = .ok (.getfield 32, 3)))) (
   sndC (sd_iconst (hd := (by decide +kernel : decode cX11_asks 52 = .ok (.iconst 3, 1))) (hv := by decide)) (
   sndC (sd_iload_n (hi := rfl) (hd := (by decide +kernel : decode cX11_asks 53 = .ok (.iload_n 2, 1)))) (
   sndC (sd_imul (hd := (by decide +kernel : decode cX11_asks 54 = .ok (.imul, 1)))) (
   sndC (sd_iconst (hd := (by decide +kernel : decode cX11_asks 55 = .ok (.iconst 1, 1))) (hv := by decide)) (
   sndC (sd_iadd (hd := (by decide +kernel : decode cX11_asks 56 = .ok (.iadd, 1)))) (
   sndC (sd_iald (hd := (by decide +kernel : decode cX11_asks 57 = .ok (.iaload, 1)))) (
   sndC (sd_putI (C := RX11) (T := TX11) (N := 41) (hc := rfl) (hin0 := iX11) (hk := by decide) (hlink := w_1030) (ty0 := tyX11) (hty := tyX11_ok) (hnm := nmX11) (hfin := rfl) (hi := rfl) (hd := (by decide +kernel : decode cX11_asks 61 = .ok (.putfield 202, 3)))) (
   sndC (sd_aload_n (hi := rfl) (hd := (by decide +kernel : decode cX11_asks 64 = .ok (.aload_n 0, 1)))) (
   sndC (sd_aload_n (hi := rfl) (hd := (by decide +kernel : decode cX11_asks 65 = .ok (.aload_n 0, 1)))) (
   sndC (sd_get (C := RX11) (T := TX11) (N := 41) (hc := rfl) (hin0 := iX11) (hk := by decide) (hlink := w_1021) (hd := (by decide +kernel : decode cX11_asks 66 = .ok (.getfield 23, 3)))) (
   sndC (sd_iload_n (hi := rfl) (hd := (by decide +kernel : decode cX11_asks 69 = .ok (.iload_n 3, 1)))) (
   sndC (sd_iadd (hd := (by decide +kernel : decode cX11_asks 70 = .ok (.iadd, 1)))) (
   sndC (sd_putI (C := RX11) (T := TX11) (N := 41) (hc := rfl) (hin0 := iX11) (hk := by decide) (hlink := w_1031) (ty0 := tyX11) (hty := tyX11_ok) (hnm := nmX11) (hfin := rfl) (hi := rfl) (hd := (by decide +kernel : decode cX11_asks 71 = .ok (.putfield 205, 3)))) (
   sndC (sd_aload_n (hi := rfl) (hd := (by decide +kernel : decode cX11_asks 74 = .ok (.aload_n 0, 1)))) (
   sndC (sd_aload_n (hi := rfl) (hd := (by decide +kernel : decode cX11_asks 75 = .ok (.aload_n 0, 1)))) (
   sndC (sd_get (C := RX11) (T := TX11) (N := 41) (hc := rfl) (hin0 := iX11) (hk := by decide) (hlink := w_1018) (hd := (by decide +kernel : decode cX11_asks 76 = .ok (.getfield 113, 3)))) (
   sndC (sd_iload_n (hi := rfl) (hd := (by decide +kernel : decode cX11_asks 79 = .ok (.iload_n 1, 1)))) (
   sndC (sd_istore (hd := (by decide +kernel : decode cX11_asks 83 = .ok (.istore 6, 2)))) (
   sndC (sd_iload (hd := (by decide +kernel : decode cX11_asks 85 = .ok (.iload 6, 2)))) (
   sndC (sd_iload_n (hi := rfl) (hd := (by decide +kernel : decode cX11_asks 87 = .ok (.iload_n 1, 1)))) (
   sndC (sd_iconst (hd := (by decide +kernel : decode cX11_asks 88 = .ok (.iconst 2, 1))) (hv := by decide)) (
   sndC (sd_cmp_ne (ht := by decide) (hd := (by decide +kernel : decode cX11_asks 89 = .ok (.if_icmp .ne 8, 3)))) (
   sndC (sd_bipush (hd := (by decide +kernel : decode cX11_asks 92 = .ok (.bipush (-99), 2))) (hv := by decide)) (
   sndC (sd_goto (ht := by decide) (hd := (by decide +kernel : decode cX11_asks 94 = .ok (.goto 4, 3)))) (
   sndC (sd_iconst (hd := (by decide +kernel : decode cX11_asks 97 = .ok (.iconst 0, 1))) (hv := by decide)) (
   sndC (sd_bipush (hd := (by decide +kernel : decode cX11_asks 98 = .ok (.bipush 99, 2))) (hv := by decide)) (
   sndN))))))))))))))))))))))))))))))))))))))))))))))))))))))))⟩
theorem kX11_asks_58 : CallAt mX11_asks 58 1 mX11_bitsOf 1 := ⟨by decide +kernel, ⟨_, (by decide +kernel : decode cX11_asks 58 = .ok (.invokestatic 338, 3)), w_1181, w_1182⟩⟩
theorem kX11_asks_80 : CallAt mX11_asks 80 0 mX11_read 2 := ⟨by decide +kernel, ⟨_, (by decide +kernel : decode cX11_asks 80 = .ok (.invokevirtual 335, 3)), w_1184, w_1186, w_52⟩⟩
theorem kX11_asks_100 : CallAt mX11_asks 100 1 mX11_within 3 := ⟨by decide +kernel, ⟨_, (by decide +kernel : decode cX11_asks 100 = .ok (.invokestatic 341, 3)), w_1374, w_1375⟩⟩

set_option maxRecDepth 20000 in
theorem GX11_costsOf : Good mX11_costsOf := ⟨by decide +kernel, List.mem_of_getElem? (i := 1380) (by decide +kernel), inX11, ⟨by decide +kernel, by decide +kernel⟩, by decide, show ∀ q ∈ tX11_costsOf, Snd mX11_costsOf q.1 q.2 from
  sndC (sd_aload_n (hi := rfl) (hd := (by decide +kernel : decode cX11_costsOf 0 = .ok (.aload_n 0, 1)))) (
   sndC (sd_get (C := RX11) (T := TX11) (N := 41) (hc := rfl) (hin0 := iX11) (hk := by decide) (hlink := w_1023) (hd := (by decide +kernel : decode cX11_costsOf 1 = .ok (.getfield 29, 3)))) (
   sndC (sd_iload_n (hi := rfl) (hd := (by decide +kernel : decode cX11_costsOf 4 = .ok (.iload_n 1, 1)))) (
   sndC (sd_iald (hd := (by decide +kernel : decode cX11_costsOf 5 = .ok (.iaload, 1)))) (
   sndC (sd_istore_n (hi := rfl) (hd := (by decide +kernel : decode cX11_costsOf 6 = .ok (.istore_n 2, 1)))) (
   sndC (sd_aload_n (hi := rfl) (hd := (by decide +kernel : decode cX11_costsOf 7 = .ok (.aload_n 0, 1)))) (
   sndC (sd_iconst (hd := (by decide +kernel : decode cX11_costsOf 8 = .ok (.iconst 1, 1))) (hv := by decide)) (
   sndC (sd_iload_n (hi := rfl) (hd := (by decide +kernel : decode cX11_costsOf 9 = .ok (.iload_n 1, 1)))) (
   sndC (sd_iconst (hd := (by decide +kernel : decode cX11_costsOf 10 = .ok (.iconst 0, 1))) (hv := by decide)) (
   sndC (sd_iconst (hd := (by decide +kernel : decode cX11_costsOf 11 = .ok (.iconst 0, 1))) (hv := by decide)) (
   sndC (sd_iconst (hd := (by decide +kernel : decode cX11_costsOf 12 = .ok (.iconst 0, 1))) (hv := by decide)) (
   sndC (sd_istore_n (hi := rfl) (hd := (by decide +kernel : decode cX11_costsOf 16 = .ok (.istore_n 3, 1)))) (
   sndC (sd_iload_n (hi := rfl) (hd := (by decide +kernel : decode cX11_costsOf 17 = .ok (.iload_n 2, 1)))) (
   sndC (sd_iconst (hd := (by decide +kernel : decode cX11_costsOf 18 = .ok (.iconst 1, 1))) (hv := by decide)) (
   sndC (sd_cmp_eq (ht := by decide) (hd := (by decide +kernel : decode cX11_costsOf 19 = .ok (.if_icmp .eq 8, 3)))) (
   sndC (sd_iload_n (hi := rfl) (hd := (by decide +kernel : decode cX11_costsOf 22 = .ok (.iload_n 2, 1)))) (
   sndC (sd_iconst (hd := (by decide +kernel : decode cX11_costsOf 23 = .ok (.iconst 3, 1))) (hv := by decide)) (
   sndC (sd_cmp_ne (ht := by decide) (hd := (by decide +kernel : decode cX11_costsOf 24 = .ok (.if_icmp .ne 9, 3)))) (
   sndC (sd_iload_n (hi := rfl) (hd := (by decide +kernel : decode cX11_costsOf 27 = .ok (.iload_n 3, 1)))) (
   sndC (sd_iconst (hd := (by decide +kernel : decode cX11_costsOf 28 = .ok (.iconst 2, 1))) (hv := by decide)) (
   sndC (sd_idiv (hd := (by decide +kernel : decode cX11_costsOf 29 = .ok (.idiv, 1)))) (
   sndC (sd_goto (ht := by decide) (hd := (by decide +kernel : decode cX11_costsOf 30 = .ok (.goto 33, 3)))) (
   sndC (sd_iload_n (hi := rfl) (hd := (by decide +kernel : decode cX11_costsOf 33 = .ok (.iload_n 2, 1)))) (
   sndC (sd_iconst (hd := (by decide +kernel : decode cX11_costsOf 34 = .ok (.iconst 4, 1))) (hv := by decide)) (
   sndC (sd_cmp_ne (ht := by decide) (hd := (by decide +kernel : decode cX11_costsOf 35 = .ok (.if_icmp .ne 16, 3)))) (
   sndC (sd_iload_n (hi := rfl) (hd := (by decide +kernel : decode cX11_costsOf 38 = .ok (.iload_n 3, 1)))) (
   sndC (sd_aload_n (hi := rfl) (hd := (by decide +kernel : decode cX11_costsOf 39 = .ok (.aload_n 0, 1)))) (
   sndC (sd_get (C := RX11) (T := TX11) (N := 41) (hc := rfl) (hin0 := iX11) (hk := by decide) (hlink := w_1024) (hd := (by decide +kernel : decode cX11_costsOf 40 = .ok (.getfield 32, 3)))) (
   sndC (sd_iconst (hd := (by decide +kernel : decode cX11_costsOf 43 = .ok (.iconst 3, 1))) (hv := by decide)) (
   sndC (sd_iload_n (hi := rfl) (hd := (by decide +kernel : decode cX11_costsOf 44 = .ok (.iload_n 1, 1)))) (
   sndC (sd_imul (hd := (by decide +kernel : decode cX11_costsOf 45 = .ok (.imul, 1)))) (
   sndC (sd_iald (hd := (by decide +kernel : decode cX11_costsOf 46 = .ok (.iaload, 1)))) (
   sndC (sd_iadd (hd := (by decide +kernel : decode cX11_costsOf 47 = .ok (.iadd, 1)))) (
   sndC (sd_goto (ht := by decide) (hd := (by decide +kernel : decode cX11_costsOf 48 = .ok (.goto 15, 3)))) (
   sndC (sd_iload_n (hi := rfl) (hd := (by decide +kernel : decode cX11_costsOf 51 = .ok (.iload_n 2, 1)))) (
   sndC (sd_iconst (hd := (by decide +kernel : decode cX11_costsOf 52 = .ok (.iconst 5, 1))) (hv := by decide)) (
   sndC (sd_cmp_ne (ht := by decide) (hd := (by decide +kernel : decode cX11_costsOf 53 = .ok (.if_icmp .ne 9, 3)))) (
   sndC (sd_iconst (hd := (by decide +kernel : decode cX11_costsOf 56 = .ok (.iconst 2, 1))) (hv := by decide)) (
   sndC (sd_iload_n (hi := rfl) (hd := (by decide +kernel : decode cX11_costsOf 57 = .ok (.iload_n 3, 1)))) (
   sndC (sd_imul (hd := (by decide +kernel : decode cX11_costsOf 58 = .ok (.imul, 1)))) (
   sndC (sd_goto (ht := by decide) (hd := (by decide +kernel : decode cX11_costsOf 59 = .ok (.goto 4, 3)))) (
   sndC (sd_iload_n (hi := rfl) (hd := (by decide +kernel : decode cX11_costsOf 62 = .ok (.iload_n 3, 1)))) (
   sndN))))))))))))))))))))))))))))))))))))))))))⟩
theorem kX11_costsOf_13 : CallAt mX11_costsOf 13 0 mX11_asks 5 := ⟨by decide +kernel, ⟨_, (by decide +kernel : decode cX11_costsOf 13 = .ok (.invokevirtual 345, 3)), w_1177, w_1179, w_51⟩⟩

set_option maxRecDepth 20000 in
theorem GX11_saysOf : Good mX11_saysOf := ⟨by decide +kernel, List.mem_of_getElem? (i := 1176) (by decide +kernel), inX11, ⟨by decide +kernel, by decide +kernel⟩, by decide, show ∀ q ∈ tX11_saysOf, Snd mX11_saysOf q.1 q.2 from
  sndC (sd_aload_n (hi := rfl) (hd := (by decide +kernel : decode cX11_saysOf 0 = .ok (.aload_n 0, 1)))) (
   sndC (sd_get (C := RX11) (T := TX11) (N := 41) (hc := rfl) (hin0 := iX11) (hk := by decide) (hlink := w_1023) (hd := (by decide +kernel : decode cX11_saysOf 1 = .ok (.getfield 29, 3)))) (
   sndC (sd_iload_n (hi := rfl) (hd := (by decide +kernel : decode cX11_saysOf 4 = .ok (.iload_n 1, 1)))) (
   sndC (sd_iald (hd := (by decide +kernel : decode cX11_saysOf 5 = .ok (.iaload, 1)))) (
   sndC (sd_istore (hd := (by decide +kernel : decode cX11_saysOf 6 = .ok (.istore 5, 2)))) (
   sndC (sd_aload_n (hi := rfl) (hd := (by decide +kernel : decode cX11_saysOf 8 = .ok (.aload_n 0, 1)))) (
   sndC (sd_get (C := RX11) (T := TX11) (N := 41) (hc := rfl) (hin0 := iX11) (hk := by decide) (hlink := w_1024) (hd := (by decide +kernel : decode cX11_saysOf 9 = .ok (.getfield 32, 3)))) (
   sndC (sd_iconst (hd := (by decide +kernel : decode cX11_saysOf 12 = .ok (.iconst 3, 1))) (hv := by decide)) (
   sndC (sd_iload_n (hi := rfl) (hd := (by decide +kernel : decode cX11_saysOf 13 = .ok (.iload_n 1, 1)))) (
   sndC (sd_imul (hd := (by decide +kernel : decode cX11_saysOf 14 = .ok (.imul, 1)))) (
   sndC (sd_iconst (hd := (by decide +kernel : decode cX11_saysOf 15 = .ok (.iconst 1, 1))) (hv := by decide)) (
   sndC (sd_iadd (hd := (by decide +kernel : decode cX11_saysOf 16 = .ok (.iadd, 1)))) (
   sndC (sd_iald (hd := (by decide +kernel : decode cX11_saysOf 17 = .ok (.iaload, 1)))) (
   sndC (sd_iload_n (hi := rfl) (hd := (by decide +kernel : decode cX11_saysOf 18 = .ok (.iload_n 2, 1)))) (
   sndC (sd_ishr (hd := (by decide +kernel : decode cX11_saysOf 19 = .ok (.ishr, 1)))) (
   sndC (sd_iconst (hd := (by decide +kernel : decode cX11_saysOf 20 = .ok (.iconst 1, 1))) (hv := by decide)) (
   sndC (sd_iand (hd := (by decide +kernel : decode cX11_saysOf 21 = .ok (.iand, 1)))) (
   sndC (sd_if_eq (ht := by decide) (hd := (by decide +kernel : decode cX11_saysOf 22 = .ok (.ifCond .eq 22, 3)))) (
   sndC (sd_iload (hd := (by decide +kernel : decode cX11_saysOf 25 = .ok (.iload 5, 2)))) (
   sndC (sd_iconst (hd := (by decide +kernel : decode cX11_saysOf 27 = .ok (.iconst 5, 1))) (hv := by decide)) (
   sndC (sd_cmp_eq (ht := by decide) (hd := (by decide +kernel : decode cX11_saysOf 28 = .ok (.if_icmp .eq 16, 3)))) (
   sndC (sd_iload (hd := (by decide +kernel : decode cX11_saysOf 31 = .ok (.iload 5, 2)))) (
   sndC (sd_iconst (hd := (by decide +kernel : decode cX11_saysOf 33 = .ok (.iconst 4, 1))) (hv := by decide)) (
   sndC (sd_cmp_ne (ht := by decide) (hd := (by decide +kernel : decode cX11_saysOf 34 = .ok (.if_icmp .ne 12, 3)))) (
   sndC (sd_iload_n (hi := rfl) (hd := (by decide +kernel : decode cX11_saysOf 37 = .ok (.iload_n 2, 1)))) (
   sndC (sd_iconst (hd := (by decide +kernel : decode cX11_saysOf 38 = .ok (.iconst 2, 1))) (hv := by decide)) (
   sndC (sd_irem (hd := (by decide +kernel : decode cX11_saysOf 39 = .ok (.irem, 1)))) (
   sndC (sd_iconst (hd := (by decide +kernel : decode cX11_saysOf 40 = .ok (.iconst 1, 1))) (hv := by decide)) (
   sndC (sd_cmp_ne (ht := by decide) (hd := (by decide +kernel : decode cX11_saysOf 41 = .ok (.if_icmp .ne 5, 3)))) (
   sndC (sd_iconst (hd := (by decide +kernel : decode cX11_saysOf 44 = .ok (.iconst (-1), 1))) (hv := by decide)) (
   sndC (sd_iload (hd := (by decide +kernel : decode cX11_saysOf 46 = .ok (.iload 5, 2)))) (
   sndC (sd_iconst (hd := (by decide +kernel : decode cX11_saysOf 48 = .ok (.iconst 1, 1))) (hv := by decide)) (
   sndC (sd_cmp_ne (ht := by decide) (hd := (by decide +kernel : decode cX11_saysOf 49 = .ok (.if_icmp .ne 5, 3)))) (
   sndC (sd_iload_n (hi := rfl) (hd := (by decide +kernel : decode cX11_saysOf 52 = .ok (.iload_n 3, 1)))) (
   sndC (sd_iload (hd := (by decide +kernel : decode cX11_saysOf 54 = .ok (.iload 5, 2)))) (
   sndC (sd_iconst (hd := (by decide +kernel : decode cX11_saysOf 56 = .ok (.iconst 2, 1))) (hv := by decide)) (
   sndC (sd_cmp_eq (ht := by decide) (hd := (by decide +kernel : decode cX11_saysOf 57 = .ok (.if_icmp .eq 9, 3)))) (
   sndC (sd_iload (hd := (by decide +kernel : decode cX11_saysOf 60 = .ok (.iload 5, 2)))) (
   sndC (sd_iconst (hd := (by decide +kernel : decode cX11_saysOf 62 = .ok (.iconst 4, 1))) (hv := by decide)) (
   sndC (sd_cmp_ne (ht := by decide) (hd := (by decide +kernel : decode cX11_saysOf 63 = .ok (.if_icmp .ne 9, 3)))) (
   sndC (sd_iconst (hd := (by decide +kernel : decode cX11_saysOf 66 = .ok (.iconst 4, 1))) (hv := by decide)) (
   sndC (sd_iload_n (hi := rfl) (hd := (by decide +kernel : decode cX11_saysOf 67 = .ok (.iload_n 3, 1)))) (
   sndC (sd_iconst (hd := (by decide +kernel : decode cX11_saysOf 68 = .ok (.iconst 2, 1))) (hv := by decide)) (
   sndC (sd_idiv (hd := (by decide +kernel : decode cX11_saysOf 69 = .ok (.idiv, 1)))) (
   sndC (sd_iadd (hd := (by decide +kernel : decode cX11_saysOf 70 = .ok (.iadd, 1)))) (
   sndC (sd_aload_n (hi := rfl) (hd := (by decide +kernel : decode cX11_saysOf 72 = .ok (.aload_n 0, 1)))) (
   sndC (sd_iconst (hd := (by decide +kernel : decode cX11_saysOf 73 = .ok (.iconst 0, 1))) (hv := by decide)) (
   sndC (sd_iload_n (hi := rfl) (hd := (by decide +kernel : decode cX11_saysOf 74 = .ok (.iload_n 1, 1)))) (
   sndC (sd_iload_n (hi := rfl) (hd := (by decide +kernel : decode cX11_saysOf 75 = .ok (.iload_n 2, 1)))) (
   sndC (sd_iload_n (hi := rfl) (hd := (by decide +kernel : decode cX11_saysOf 76 = .ok (.iload_n 3, 1)))) (
   sndC (sd_iload (hd := (by decide +kernel : decode cX11_saysOf 77 = .ok (.iload 4, 2)))) (
   sndC (sd_istore (hd := (by decide +kernel : decode cX11_saysOf 82 = .ok (.istore 6, 2)))) (
   sndC (sd_iload (hd := (by decide +kernel : decode cX11_saysOf 84 = .ok (.iload 5, 2)))) (
   sndC (sd_iconst (hd := (by decide +kernel : decode cX11_saysOf 86 = .ok (.iconst 3, 1))) (hv := by decide)) (
   sndC (sd_cmp_ne (ht := by decide) (hd := (by decide +kernel : decode cX11_saysOf 87 = .ok (.if_icmp .ne 20, 3)))) (
   sndC (sd_iload (hd := (by decide +kernel : decode cX11_saysOf 90 = .ok (.iload 6, 2)))) (
   sndC (sd_bipush (hd := (by decide +kernel : decode cX11_saysOf 92 = .ok (.bipush 20, 2))) (hv := by decide)) (
   sndC (sd_cmp_le (ht := by decide) (hd := (by decide +kernel : decode cX11_saysOf 94 = .ok (.if_icmp .le 11, 3)))) (
   sndC (sd_iload_n (hi := rfl) (hd := (by decide +kernel : decode cX11_saysOf 97 = .ok (.iload_n 3, 1)))) (
   sndC (sd_iconst (hd := (by decide +kernel : decode cX11_saysOf 98 = .ok (.iconst 1, 1))) (hv := by decide)) (
   sndC (sd_iadd (hd := (by decide +kernel : decode cX11_saysOf 99 = .ok (.iadd, 1)))) (
   sndC (sd_iconst (hd := (by decide +kernel : decode cX11_saysOf 100 = .ok (.iconst 4, 1))) (hv := by decide)) (
   sndC (sd_irem (hd := (by decide +kernel : decode cX11_saysOf 101 = .ok (.irem, 1)))) (
   sndC (sd_goto (ht := by decide) (hd := (by decide +kernel : decode cX11_saysOf 102 = .ok (.goto 4, 3)))) (
   sndC (sd_iload_n (hi := rfl) (hd := (by decide +kernel : decode cX11_saysOf 105 = .ok (.iload_n 3, 1)))) (
   sndC (sd_iload (hd := (by decide +kernel : decode cX11_saysOf 107 = .ok (.iload 6, 2)))) (
   sndC (sd_bipush (hd := (by decide +kernel : decode cX11_saysOf 109 = .ok (.bipush 10, 2))) (hv := by decide)) (
   sndC (sd_aload_n (hi := rfl) (hd := (by decide +kernel : decode cX11_saysOf 111 = .ok (.aload_n 0, 1)))) (
   sndC (sd_get (C := RX11) (T := TX11) (N := 41) (hc := rfl) (hin0 := iX11) (hk := by decide) (hlink := w_1024) (hd := (by decide +kernel : decode cX11_saysOf 112 = .ok (.getfield 32, 3)))) (
   sndC (sd_iconst (hd := (by decide +kernel : decode cX11_saysOf 115 = .ok (.iconst 3, 1))) (hv := by decide)) (
   sndC (sd_iload_n (hi := rfl) (hd := (by decide +kernel : decode cX11_saysOf 116 = .ok (.iload_n 1, 1)))) (
   sndC (sd_imul (hd := (by decide +kernel : decode cX11_saysOf 117 = .ok (.imul, 1)))) (
   sndC (sd_iald (hd := (by decide +kernel : decode cX11_saysOf 118 = .ok (.iaload, 1)))) (
   sndC (sd_imul (hd := (by decide +kernel : decode cX11_saysOf 119 = .ok (.imul, 1)))) (
   sndC (sd_cmp_gt (ht := by decide) (hd := (by decide +kernel : decode cX11_saysOf 120 = .ok (.if_icmp .gt 7, 3)))) (
   sndC (sd_iload_n (hi := rfl) (hd := (by decide +kernel : decode cX11_saysOf 123 = .ok (.iload_n 3, 1)))) (
   sndC (sd_goto (ht := by decide) (hd := (by decide +kernel : decode cX11_saysOf 124 = .ok (.goto 4, 3)))) (
   sndC (sd_iconst (hd := (by decide +kernel : decode cX11_saysOf 127 = .ok (.iconst (-1), 1))) (hv := by decide)) (
   sndN))))))))))))))))))))))))))))))))))))))))))))))))))))))))))))))))))))))))))))))⟩
theorem kX11_saysOf_79 : CallAt mX11_saysOf 79 0 mX11_asks 5 := ⟨by decide +kernel, ⟨_, (by decide +kernel : decode cX11_saysOf 79 = .ok (.invokevirtual 345, 3)), w_1177, w_1179, w_51⟩⟩

set_option maxRecDepth 20000 in
theorem GX11_saysNow : Good mX11_saysNow := ⟨by decide +kernel, List.mem_of_getElem? (i := 1172) (by decide +kernel), inX11, ⟨by decide +kernel, by decide +kernel⟩, by decide, show ∀ q ∈ tX11_saysNow, Snd mX11_saysNow q.1 q.2 from
  sndC (sd_aload_n (hi := rfl) (hd := (by decide +kernel : decode cX11_saysNow 0 = .ok (.aload_n 0, 1)))) (
   sndC (sd_iload_n (hi := rfl) (hd := (by decide +kernel : decode cX11_saysNow 1 = .ok (.iload_n 1, 1)))) (
   sndC (sd_iload_n (hi := rfl) (hd := (by decide +kernel : decode cX11_saysNow 2 = .ok (.iload_n 2, 1)))) (
   sndC (sd_aload_n (hi := rfl) (hd := (by decide +kernel : decode cX11_saysNow 3 = .ok (.aload_n 0, 1)))) (
   sndC (sd_get (C := RX11) (T := TX11) (N := 41) (hc := rfl) (hin0 := iX11) (hk := by decide) (hlink := w_1022) (hd := (by decide +kernel : decode cX11_saysNow 4 = .ok (.getfield 26, 3)))) (
   sndC (sd_iload_n (hi := rfl) (hd := (by decide +kernel : decode cX11_saysNow 7 = .ok (.iload_n 2, 1)))) (
   sndC (sd_iald (hd := (by decide +kernel : decode cX11_saysNow 8 = .ok (.iaload, 1)))) (
   sndC (sd_iload_n (hi := rfl) (hd := (by decide +kernel : decode cX11_saysNow 9 = .ok (.iload_n 2, 1)))) (
   sndC (sd_if_ne (ht := by decide) (hd := (by decide +kernel : decode cX11_saysNow 10 = .ok (.ifCond .ne 7, 3)))) (
   sndC (sd_iconst (hd := (by decide +kernel : decode cX11_saysNow 13 = .ok (.iconst 0, 1))) (hv := by decide)) (
   sndC (sd_goto (ht := by decide) (hd := (by decide +kernel : decode cX11_saysNow 14 = .ok (.goto 11, 3)))) (
   sndC (sd_aload_n (hi := rfl) (hd := (by decide +kernel : decode cX11_saysNow 17 = .ok (.aload_n 0, 1)))) (
   sndC (sd_get (C := RX11) (T := TX11) (N := 41) (hc := rfl) (hin0 := iX11) (hk := by decide) (hlink := w_1022) (hd := (by decide +kernel : decode cX11_saysNow 18 = .ok (.getfield 26, 3)))) (
   sndC (sd_iload_n (hi := rfl) (hd := (by decide +kernel : decode cX11_saysNow 21 = .ok (.iload_n 2, 1)))) (
   sndC (sd_iconst (hd := (by decide +kernel : decode cX11_saysNow 22 = .ok (.iconst 1, 1))) (hv := by decide)) (
   sndC (sd_isub (hd := (by decide +kernel : decode cX11_saysNow 23 = .ok (.isub, 1)))) (
   sndC (sd_iald (hd := (by decide +kernel : decode cX11_saysNow 24 = .ok (.iaload, 1)))) (
   sndN)))))))))))))))))⟩
theorem kX11_saysNow_25 : CallAt mX11_saysNow 25 0 mX11_saysOf 4 := ⟨by decide +kernel, ⟨_, (by decide +kernel : decode cX11_saysNow 25 = .ok (.invokevirtual 349, 3)), w_1173, w_1175, w_50⟩⟩

set_option maxRecDepth 20000 in
theorem GX11_doing : Good mX11_doing := ⟨by decide +kernel, List.mem_of_getElem? (i := 1434) (by decide +kernel), inX11, ⟨by decide +kernel, by decide +kernel⟩, by decide, show ∀ q ∈ tX11_doing, Snd mX11_doing q.1 q.2 from
  sndC (sd_iload_n (hi := rfl) (hd := (by decide +kernel : decode cX11_doing 0 = .ok (.iload_n 0, 1)))) (
   sndC (sd_iconst (hd := (by decide +kernel : decode cX11_doing 1 = .ok (.iconst 2, 1))) (hv := by decide)) (
   sndC (sd_iconst (hd := (by decide +kernel : decode cX11_doing 2 = .ok (.iconst 5, 1))) (hv := by decide)) (
   sndC (sd_iload_n (hi := rfl) (hd := (by decide +kernel : decode cX11_doing 3 = .ok (.iload_n 1, 1)))) (
   sndC (sd_isub (hd := (by decide +kernel : decode cX11_doing 4 = .ok (.isub, 1)))) (
   sndC (sd_imul (hd := (by decide +kernel : decode cX11_doing 5 = .ok (.imul, 1)))) (
   sndC (sd_ishr (hd := (by decide +kernel : decode cX11_doing 6 = .ok (.ishr, 1)))) (
   sndC (sd_iconst (hd := (by decide +kernel : decode cX11_doing 7 = .ok (.iconst 3, 1))) (hv := by decide)) (
   sndC (sd_iand (hd := (by decide +kernel : decode cX11_doing 8 = .ok (.iand, 1)))) (
   sndN)))))))))⟩


set_option maxRecDepth 20000 in
theorem GX11_lastOf : Good mX11_lastOf := ⟨by decide +kernel, List.mem_of_getElem? (i := 1431) (by decide +kernel), inX11, ⟨by decide +kernel, by decide +kernel⟩, by decide, show ∀ q ∈ tX11_lastOf, Snd mX11_lastOf q.1 q.2 from
  sndC (sd_iload_n (hi := rfl) (hd := (by decide +kernel : decode cX11_lastOf 0 = .ok (.iload_n 1, 1)))) (
   sndC (sd_if_ne (ht := by decide) (hd := (by decide +kernel : decode cX11_lastOf 1 = .ok (.ifCond .ne 7, 3)))) (
   sndC (sd_iconst (hd := (by decide +kernel : decode cX11_lastOf 4 = .ok (.iconst 0, 1))) (hv := by decide)) (
   sndC (sd_goto (ht := by decide) (hd := (by decide +kernel : decode cX11_lastOf 5 = .ok (.goto 10, 3)))) (
   sndC (sd_iload_n (hi := rfl) (hd := (by decide +kernel : decode cX11_lastOf 8 = .ok (.iload_n 0, 1)))) (
   sndC (sd_iload_n (hi := rfl) (hd := (by decide +kernel : decode cX11_lastOf 9 = .ok (.iload_n 1, 1)))) (
   sndC (sd_iconst (hd := (by decide +kernel : decode cX11_lastOf 10 = .ok (.iconst 1, 1))) (hv := by decide)) (
   sndC (sd_isub (hd := (by decide +kernel : decode cX11_lastOf 11 = .ok (.isub, 1)))) (
   sndN))))))))⟩
theorem kX11_lastOf_12 : CallAt mX11_lastOf 12 1 mX11_doing 2 := ⟨by decide +kernel, ⟨_, (by decide +kernel : decode cX11_lastOf 12 = .ok (.invokestatic 353, 3)), w_1432, w_1433⟩⟩

set_option maxRecDepth 20000 in
theorem GX11_digits : Good mX11_digits := ⟨by decide +kernel, List.mem_of_getElem? (i := 1473) (by decide +kernel), inX11, ⟨by decide +kernel, by decide +kernel⟩, by decide, show ∀ q ∈ tX11_digits, Snd mX11_digits q.1 q.2 from
  sndC (sd_iconst (hd := (by decide +kernel : decode cX11_digits 0 = .ok (.iconst 0, 1))) (hv := by decide)) (
   sndC (sd_istore_n (hi := rfl) (hd := (by decide +kernel : decode cX11_digits 1 = .ok (.istore_n 1, 1)))) (
   sndC (sd_iconst (hd := (by decide +kernel : decode cX11_digits 2 = .ok (.iconst 0, 1))) (hv := by decide)) (
   sndC (sd_istore_n (hi := rfl) (hd := (by decide +kernel : decode cX11_digits 3 = .ok (.istore_n 2, 1)))) (
   sndC (sd_iload_n (hi := rfl) (hd := (by decide +kernel : decode cX11_digits 4 = .ok (.iload_n 2, 1)))) (
   sndC (sd_bipush (hd := (by decide +kernel : decode cX11_digits 5 = .ok (.bipush 6, 2))) (hv := by decide)) (
   sndC (sd_cmp_ge (ht := by decide) (hd := (by decide +kernel : decode cX11_digits 7 = .ok (.if_icmp .ge 22, 3)))) (
   sndC (sd_bipush (hd := (by decide +kernel : decode cX11_digits 10 = .ok (.bipush 10, 2))) (hv := by decide)) (
   sndC (sd_iload_n (hi := rfl) (hd := (by decide +kernel : decode cX11_digits 12 = .ok (.iload_n 1, 1)))) (
   sndC (sd_imul (hd := (by decide +kernel : decode cX11_digits 13 = .ok (.imul, 1)))) (
   sndC (sd_iload_n (hi := rfl) (hd := (by decide +kernel : decode cX11_digits 14 = .ok (.iload_n 0, 1)))) (
   sndC (sd_iload_n (hi := rfl) (hd := (by decide +kernel : decode cX11_digits 15 = .ok (.iload_n 2, 1)))) (
   sndC (sd_iadd (hd := (by decide +kernel : decode cX11_digits 19 = .ok (.iadd, 1)))) (
   sndC (sd_iconst (hd := (by decide +kernel : decode cX11_digits 20 = .ok (.iconst 1, 1))) (hv := by decide)) (
   sndC (sd_iadd (hd := (by decide +kernel : decode cX11_digits 21 = .ok (.iadd, 1)))) (
   sndC (sd_istore_n (hi := rfl) (hd := (by decide +kernel : decode cX11_digits 22 = .ok (.istore_n 1, 1)))) (
   sndC (sd_iinc (hv := by decide) (hd := (by decide +kernel : decode cX11_digits 23 = .ok (.iinc 2 1, 3)))) (
   sndC (sd_goto (ht := by decide) (hd := (by decide +kernel : decode cX11_digits 26 = .ok (.goto (-22), 3)))) (
   sndC (sd_iload_n (hi := rfl) (hd := (by decide +kernel : decode cX11_digits 29 = .ok (.iload_n 1, 1)))) (
   sndN)))))))))))))))))))⟩
theorem kX11_digits_16 : CallAt mX11_digits 16 1 mX11_doing 2 := ⟨by decide +kernel, ⟨_, (by decide +kernel : decode cX11_digits 16 = .ok (.invokestatic 353, 3)), w_1432, w_1433⟩⟩

set_option maxRecDepth 20000 in
theorem GX11_spot : Good mX11_spot := ⟨by decide +kernel, List.mem_of_getElem? (i := 1420) (by decide +kernel), inX11, ⟨by decide +kernel, by decide +kernel⟩, by decide, show ∀ q ∈ tX11_spot, Snd mX11_spot q.1 q.2 from
  sndC (sd_bipush (hd := (by decide +kernel : decode cX11_spot 0 = .ok (.bipush 16, 2))) (hv := by decide)) (
   sndC (sd_bipush (hd := (by decide +kernel : decode cX11_spot 2 = .ok (.bipush 6, 2))) (hv := by decide)) (
   sndC (sd_iload_n (hi := rfl) (hd := (by decide +kernel : decode cX11_spot 4 = .ok (.iload_n 0, 1)))) (
   sndC (sd_imul (hd := (by decide +kernel : decode cX11_spot 5 = .ok (.imul, 1)))) (
   sndC (sd_iload_n (hi := rfl) (hd := (by decide +kernel : decode cX11_spot 6 = .ok (.iload_n 1, 1)))) (
   sndC (sd_iadd (hd := (by decide +kernel : decode cX11_spot 7 = .ok (.iadd, 1)))) (
   sndC (sd_imul (hd := (by decide +kernel : decode cX11_spot 8 = .ok (.imul, 1)))) (
   sndC (sd_iconst (hd := (by decide +kernel : decode cX11_spot 9 = .ok (.iconst 4, 1))) (hv := by decide)) (
   sndC (sd_iload_n (hi := rfl) (hd := (by decide +kernel : decode cX11_spot 10 = .ok (.iload_n 2, 1)))) (
   sndC (sd_imul (hd := (by decide +kernel : decode cX11_spot 11 = .ok (.imul, 1)))) (
   sndC (sd_iadd (hd := (by decide +kernel : decode cX11_spot 12 = .ok (.iadd, 1)))) (
   sndC (sd_iload_n (hi := rfl) (hd := (by decide +kernel : decode cX11_spot 13 = .ok (.iload_n 3, 1)))) (
   sndC (sd_iadd (hd := (by decide +kernel : decode cX11_spot 14 = .ok (.iadd, 1)))) (
   sndN)))))))))))))⟩


set_option maxRecDepth 20000 in
theorem GX11_saysBy : Good mX11_saysBy := ⟨by decide +kernel, List.mem_of_getElem? (i := 1428) (by decide +kernel), inX11, ⟨by decide +kernel, by decide +kernel⟩, by decide, show ∀ q ∈ tX11_saysBy, Snd mX11_saysBy q.1 q.2 from
  sndC (sd_aload_n (hi := rfl) (hd := (by decide +kernel : decode cX11_saysBy 0 = .ok (.aload_n 0, 1)))) (
   sndC (sd_get (C := RX11) (T := TX11) (N := 41) (hc := rfl) (hin0 := iX11) (hk := by decide) (hlink := w_1041) (hd := (by decide +kernel : decode cX11_saysBy 1 = .ok (.getfield 35, 3)))) (
   sndC (sd_iload_n (hi := rfl) (hd := (by decide +kernel : decode cX11_saysBy 4 = .ok (.iload_n 1, 1)))) (
   sndC (sd_iload_n (hi := rfl) (hd := (by decide +kernel : decode cX11_saysBy 5 = .ok (.iload_n 2, 1)))) (
   sndC (sd_iload_n (hi := rfl) (hd := (by decide +kernel : decode cX11_saysBy 6 = .ok (.iload_n 3, 1)))) (
   sndC (sd_iload_n (hi := rfl) (hd := (by decide +kernel : decode cX11_saysBy 7 = .ok (.iload_n 2, 1)))) (
   sndC (sd_iload_n (hi := rfl) (hd := (by decide +kernel : decode cX11_saysBy 11 = .ok (.iload_n 3, 1)))) (
   sndC (sd_iload_n (hi := rfl) (hd := (by decide +kernel : decode cX11_saysBy 12 = .ok (.iload_n 2, 1)))) (
   sndC (sd_iald (hd := (by decide +kernel : decode cX11_saysBy 19 = .ok (.iaload, 1)))) (
   sndN)))))))))⟩
theorem kX11_saysBy_8 : CallAt mX11_saysBy 8 1 mX11_lastOf 2 := ⟨by decide +kernel, ⟨_, (by decide +kernel : decode cX11_saysBy 8 = .ok (.invokestatic 356, 3)), w_1429, w_1430⟩⟩
theorem kX11_saysBy_13 : CallAt mX11_saysBy 13 1 mX11_doing 2 := ⟨by decide +kernel, ⟨_, (by decide +kernel : decode cX11_saysBy 13 = .ok (.invokestatic 353, 3)), w_1432, w_1433⟩⟩
theorem kX11_saysBy_16 : CallAt mX11_saysBy 16 1 mX11_spot 4 := ⟨by decide +kernel, ⟨_, (by decide +kernel : decode cX11_saysBy 16 = .ok (.invokestatic 359, 3)), w_1418, w_1419⟩⟩

set_option maxRecDepth 20000 in
theorem GX11_lifeNow : Good mX11_lifeNow := ⟨by decide +kernel, List.mem_of_getElem? (i := 1424) (by decide +kernel), inX11, ⟨by decide +kernel, by decide +kernel⟩, by decide, show ∀ q ∈ tX11_lifeNow, Snd mX11_lifeNow q.1 q.2 from
  sndC (sd_iconst (hd := (by decide +kernel : decode cX11_lifeNow 0 = .ok (.iconst 0, 1))) (hv := by decide)) (
   sndC (sd_istore_n (hi := rfl) (hd := (by decide +kernel : decode cX11_lifeNow 1 = .ok (.istore_n 1, 1)))) (
   sndC (sd_iconst (hd := (by decide +kernel : decode cX11_lifeNow 2 = .ok (.iconst 0, 1))) (hv := by decide)) (
   sndC (sd_istore_n (hi := rfl) (hd := (by decide +kernel : decode cX11_lifeNow 3 = .ok (.istore_n 2, 1)))) (
   sndC (sd_iload_n (hi := rfl) (hd := (by decide +kernel : decode cX11_lifeNow 4 = .ok (.iload_n 2, 1)))) (
   sndC (sd_bipush (hd := (by decide +kernel : decode cX11_lifeNow 5 = .ok (.bipush 6, 2))) (hv := by decide)) (
   sndC (sd_cmp_ge (ht := by decide) (hd := (by decide +kernel : decode cX11_lifeNow 7 = .ok (.if_icmp .ge 20, 3)))) (
   sndC (sd_iconst (hd := (by decide +kernel : decode cX11_lifeNow 10 = .ok (.iconst 4, 1))) (hv := by decide)) (
   sndC (sd_iload_n (hi := rfl) (hd := (by decide +kernel : decode cX11_lifeNow 11 = .ok (.iload_n 1, 1)))) (
   sndC (sd_imul (hd := (by decide +kernel : decode cX11_lifeNow 12 = .ok (.imul, 1)))) (
   sndC (sd_aload_n (hi := rfl) (hd := (by decide +kernel : decode cX11_lifeNow 13 = .ok (.aload_n 0, 1)))) (
   sndC (sd_get (C := RX11) (T := TX11) (N := 41) (hc := rfl) (hin0 := iX11) (hk := by decide) (hlink := w_1022) (hd := (by decide +kernel : decode cX11_lifeNow 14 = .ok (.getfield 26, 3)))) (
   sndC (sd_iload_n (hi := rfl) (hd := (by decide +kernel : decode cX11_lifeNow 17 = .ok (.iload_n 2, 1)))) (
   sndC (sd_iald (hd := (by decide +kernel : decode cX11_lifeNow 18 = .ok (.iaload, 1)))) (
   sndC (sd_iadd (hd := (by decide +kernel : decode cX11_lifeNow 19 = .ok (.iadd, 1)))) (
   sndC (sd_istore_n (hi := rfl) (hd := (by decide +kernel : decode cX11_lifeNow 20 = .ok (.istore_n 1, 1)))) (
   sndC (sd_iinc (hv := by decide) (hd := (by decide +kernel : decode cX11_lifeNow 21 = .ok (.iinc 2 1, 3)))) (
   sndC (sd_goto (ht := by decide) (hd := (by decide +kernel : decode cX11_lifeNow 24 = .ok (.goto (-20), 3)))) (
   sndC (sd_iload_n (hi := rfl) (hd := (by decide +kernel : decode cX11_lifeNow 27 = .ok (.iload_n 1, 1)))) (
   sndN)))))))))))))))))))⟩


set_option maxRecDepth 20000 in
theorem GX11_tables : Good mX11_tables := ⟨by decide +kernel, List.mem_of_getElem? (i := 1417) (by decide +kernel), inX11, ⟨by decide +kernel, by decide +kernel⟩, by decide, show ∀ q ∈ tX11_tables, Snd mX11_tables q.1 q.2 from
  sndC (sd_iconst (hd := (by decide +kernel : decode cX11_tables 0 = .ok (.iconst 0, 1))) (hv := by decide)) (
   sndC (sd_istore_n (hi := rfl) (hd := (by decide +kernel : decode cX11_tables 1 = .ok (.istore_n 1, 1)))) (
   sndC (sd_iload_n (hi := rfl) (hd := (by decide +kernel : decode cX11_tables 2 = .ok (.iload_n 1, 1)))) (
   sndC (sd_aload_n (hi := rfl) (hd := (by decide +kernel : decode cX11_tables 3 = .ok (.aload_n 0, 1)))) (
   sndC (sd_get (C := RX11) (T := TX11) (N := 41) (hc := rfl) (hin0 := iX11) (hk := by decide) (hlink := w_1025) (hd := (by decide +kernel : decode cX11_tables 4 = .ok (.getfield 79, 3)))) (
   sndC (sd_cmp_ge (ht := by decide) (hd := (by decide +kernel : decode cX11_tables 7 = .ok (.if_icmp .ge 81, 3)))) (
   sndC (sd_iconst (hd := (by decide +kernel : decode cX11_tables 10 = .ok (.iconst 0, 1))) (hv := by decide)) (
   sndC (sd_istore_n (hi := rfl) (hd := (by decide +kernel : decode cX11_tables 11 = .ok (.istore_n 2, 1)))) (
   sndC (sd_iload_n (hi := rfl) (hd := (by decide +kernel : decode cX11_tables 12 = .ok (.iload_n 2, 1)))) (
   sndC (sd_bipush (hd := (by decide +kernel : decode cX11_tables 13 = .ok (.bipush 6, 2))) (hv := by decide)) (
   sndC (sd_cmp_ge (ht := by decide) (hd := (by decide +kernel : decode cX11_tables 15 = .ok (.if_icmp .ge 67, 3)))) (
   sndC (sd_iconst (hd := (by decide +kernel : decode cX11_tables 18 = .ok (.iconst 0, 1))) (hv := by decide)) (
   sndC (sd_istore_n (hi := rfl) (hd := (by decide +kernel : decode cX11_tables 19 = .ok (.istore_n 3, 1)))) (
   sndC (sd_iload_n (hi := rfl) (hd := (by decide +kernel : decode cX11_tables 20 = .ok (.iload_n 3, 1)))) (
   sndC (sd_iload_n (hi := rfl) (hd := (by decide +kernel : decode cX11_tables 21 = .ok (.iload_n 2, 1)))) (
   sndC (sd_if_ne (ht := by decide) (hd := (by decide +kernel : decode cX11_tables 22 = .ok (.ifCond .ne 7, 3)))) (
   sndC (sd_iconst (hd := (by decide +kernel : decode cX11_tables 25 = .ok (.iconst 1, 1))) (hv := by decide)) (
   sndC (sd_goto (ht := by decide) (hd := (by decide +kernel : decode cX11_tables 26 = .ok (.goto 4, 3)))) (
   sndC (sd_iconst (hd := (by decide +kernel : decode cX11_tables 29 = .ok (.iconst 4, 1))) (hv := by decide)) (
   sndC (sd_cmp_ge (ht := by decide) (hd := (by decide +kernel : decode cX11_tables 30 = .ok (.if_icmp .ge 46, 3)))) (
   sndC (sd_iconst (hd := (by decide +kernel : decode cX11_tables 33 = .ok (.iconst 0, 1))) (hv := by decide)) (
   sndC (sd_istore (hd := (by decide +kernel : decode cX11_tables 34 = .ok (.istore 4, 2)))) (
   sndC (sd_iload (hd := (by decide +kernel : decode cX11_tables 36 = .ok (.iload 4, 2)))) (
   sndC (sd_iconst (hd := (by decide +kernel : decode cX11_tables 38 = .ok (.iconst 4, 1))) (hv := by decide)) (
   sndC (sd_cmp_ge (ht := by decide) (hd := (by decide +kernel : decode cX11_tables 39 = .ok (.if_icmp .ge 31, 3)))) (
   sndC (sd_aload_n (hi := rfl) (hd := (by decide +kernel : decode cX11_tables 42 = .ok (.aload_n 0, 1)))) (
   sndC (sd_get (C := RX11) (T := TX11) (N := 41) (hc := rfl) (hin0 := iX11) (hk := by decide) (hlink := w_1041) (hd := (by decide +kernel : decode cX11_tables 43 = .ok (.getfield 35, 3)))) (
   sndC (sd_iload_n (hi := rfl) (hd := (by decide +kernel : decode cX11_tables 46 = .ok (.iload_n 1, 1)))) (
   sndC (sd_iload_n (hi := rfl) (hd := (by decide +kernel : decode cX11_tables 47 = .ok (.iload_n 2, 1)))) (
   sndC (sd_iload_n (hi := rfl) (hd := (by decide +kernel : decode cX11_tables 48 = .ok (.iload_n 3, 1)))) (
   sndC (sd_iload (hd := (by decide +kernel : decode cX11_tables 49 = .ok (.iload 4, 2)))) (
   sndC (sd_aload_n (hi := rfl) (hd := (by decide +kernel : decode cX11_tables 54 = .ok (.aload_n 0, 1)))) (
   sndC (sd_iload_n (hi := rfl) (hd := (by decide +kernel : decode cX11_tables 55 = .ok (.iload_n 1, 1)))) (
   sndC (sd_iload_n (hi := rfl) (hd := (by decide +kernel : decode cX11_tables 56 = .ok (.iload_n 2, 1)))) (
   sndC (sd_iload (hd := (by decide +kernel : decode cX11_tables 57 = .ok (.iload 4, 2)))) (
   sndC (sd_iload_n (hi := rfl) (hd := (by decide +kernel : decode cX11_tables 59 = .ok (.iload_n 3, 1)))) (
   sndC (sd_iast (hd := (by decide +kernel : decode cX11_tables 63 = .ok (.iastore, 1)))) (
   sndC (sd_iinc (hv := by decide) (hd := (by decide +kernel : decode cX11_tables 64 = .ok (.iinc 4 1, 3)))) (
   sndC (sd_goto (ht := by decide) (hd := (by decide +kernel : decode cX11_tables 67 = .ok (.goto (-31), 3)))) (
   sndC (sd_iinc (hv := by decide) (hd := (by decide +kernel : decode cX11_tables 70 = .ok (.iinc 3 1, 3)))) (
   sndC (sd_goto (ht := by decide) (hd := (by decide +kernel : decode cX11_tables 73 = .ok (.goto (-53), 3)))) (
   sndC (sd_iinc (hv := by decide) (hd := (by decide +kernel : decode cX11_tables 76 = .ok (.iinc 2 1, 3)))) (
   sndC (sd_goto (ht := by decide) (hd := (by decide +kernel : decode cX11_tables 79 = .ok (.goto (-67), 3)))) (
   sndC (sd_iinc (hv := by decide) (hd := (by decide +kernel : decode cX11_tables 82 = .ok (.iinc 1 1, 3)))) (
   sndC (sd_goto (ht := by decide) (hd := (by decide +kernel : decode cX11_tables 85 = .ok (.goto (-83), 3)))) (
   sndN)))))))))))))))))))))))))))))))))))))))))))))⟩
theorem kX11_tables_51 : CallAt mX11_tables 51 1 mX11_spot 4 := ⟨by decide +kernel, ⟨_, (by decide +kernel : decode cX11_tables 51 = .ok (.invokestatic 359, 3)), w_1418, w_1419⟩⟩
theorem kX11_tables_60 : CallAt mX11_tables 60 0 mX11_saysOf 4 := ⟨by decide +kernel, ⟨_, (by decide +kernel : decode cX11_tables 60 = .ok (.invokevirtual 349, 3)), w_1173, w_1175, w_50⟩⟩

set_option maxRecDepth 20000 in
theorem GX11_gathers : Good mX11_gathers := ⟨by decide +kernel, List.mem_of_getElem? (i := 1413) (by decide +kernel), inX11, ⟨by decide +kernel, by decide +kernel⟩, by decide, show ∀ q ∈ tX11_gathers, Snd mX11_gathers q.1 q.2 from
  sndC (sd_aload_n (hi := rfl) (hd := (by decide +kernel : decode cX11_gathers 0 = .ok (.aload_n 0, 1)))) (
   sndC (sd_aload_n (hi := rfl) (hd := (by decide +kernel : decode cX11_gathers 4 = .ok (.aload_n 0, 1)))) (
   sndC (sd_istore_n (hi := rfl) (hd := (by decide +kernel : decode cX11_gathers 8 = .ok (.istore_n 1, 1)))) (
   sndC (sd_iconst (hd := (by decide +kernel : decode cX11_gathers 9 = .ok (.iconst 0, 1))) (hv := by decide)) (
   sndC (sd_istore_n (hi := rfl) (hd := (by decide +kernel : decode cX11_gathers 10 = .ok (.istore_n 2, 1)))) (
   sndC (sd_iload_n (hi := rfl) (hd := (by decide +kernel : decode cX11_gathers 11 = .ok (.iload_n 2, 1)))) (
   sndC (sd_sipush (hd := (by decide +kernel : decode cX11_gathers 12 = .ok (.sipush 4096, 3))) (hv := by decide)) (
   sndC (sd_cmp_ge (ht := by decide) (hd := (by decide +kernel : decode cX11_gathers 15 = .ok (.if_icmp .ge 104, 3)))) (
   sndC (sd_iconst (hd := (by decide +kernel : decode cX11_gathers 18 = .ok (.iconst 0, 1))) (hv := by decide)) (
   sndC (sd_istore_n (hi := rfl) (hd := (by decide +kernel : decode cX11_gathers 19 = .ok (.istore_n 3, 1)))) (
   sndC (sd_iconst (hd := (by decide +kernel : decode cX11_gathers 20 = .ok (.iconst 0, 1))) (hv := by decide)) (
   sndC (sd_istore (hd := (by decide +kernel : decode cX11_gathers 21 = .ok (.istore 4, 2)))) (
   sndC (sd_iload (hd := (by decide +kernel : decode cX11_gathers 23 = .ok (.iload 4, 2)))) (
   sndC (sd_aload_n (hi := rfl) (hd := (by decide +kernel : decode cX11_gathers 25 = .ok (.aload_n 0, 1)))) (
   sndC (sd_get (C := RX11) (T := TX11) (N := 41) (hc := rfl) (hin0 := iX11) (hk := by decide) (hlink := w_1025) (hd := (by decide +kernel : decode cX11_gathers 26 = .ok (.getfield 79, 3)))) (
   sndC (sd_cmp_ge (ht := by decide) (hd := (by decide +kernel : decode cX11_gathers 29 = .ok (.if_icmp .ge 77, 3)))) (
   sndC (sd_iconst (hd := (by decide +kernel : decode cX11_gathers 32 = .ok (.iconst 1, 1))) (hv := by decide)) (
   sndC (sd_istore (hd := (by decide +kernel : decode cX11_gathers 33 = .ok (.istore 5, 2)))) (
   sndC (sd_iconst (hd := (by decide +kernel : decode cX11_gathers 35 = .ok (.iconst 0, 1))) (hv := by decide)) (
   sndC (sd_istore (hd := (by decide +kernel : decode cX11_gathers 36 = .ok (.istore 6, 2)))) (
   sndC (sd_iload (hd := (by decide +kernel : decode cX11_gathers 38 = .ok (.iload 6, 2)))) (
   sndC (sd_bipush (hd := (by decide +kernel : decode cX11_gathers 40 = .ok (.bipush 6, 2))) (hv := by decide)) (
   sndC (sd_cmp_ge (ht := by decide) (hd := (by decide +kernel : decode cX11_gathers 42 = .ok (.if_icmp .ge 42, 3)))) (
   sndC (sd_iload (hd := (by decide +kernel : decode cX11_gathers 45 = .ok (.iload 5, 2)))) (
   sndC (sd_if_eq (ht := by decide) (hd := (by decide +kernel : decode cX11_gathers 47 = .ok (.ifCond .eq 37, 3)))) (
   sndC (sd_aload_n (hi := rfl) (hd := (by decide +kernel : decode cX11_gathers 50 = .ok (.aload_n 0, 1)))) (
   sndC (sd_iload (hd := (by decide +kernel : decode cX11_gathers 51 = .ok (.iload 4, 2)))) (
   sndC (sd_iload (hd := (by decide +kernel : decode cX11_gathers 53 = .ok (.iload 6, 2)))) (
   sndC (sd_iload_n (hi := rfl) (hd := (by decide +kernel : decode cX11_gathers 55 = .ok (.iload_n 2, 1)))) (
   sndC (sd_aload_n (hi := rfl) (hd := (by decide +kernel : decode cX11_gathers 59 = .ok (.aload_n 0, 1)))) (
   sndC (sd_iload (hd := (by decide +kernel : decode cX11_gathers 60 = .ok (.iload 4, 2)))) (
   sndC (sd_iload (hd := (by decide +kernel : decode cX11_gathers 62 = .ok (.iload 6, 2)))) (
   sndC (sd_iload_n (hi := rfl) (hd := (by decide +kernel : decode cX11_gathers 64 = .ok (.iload_n 1, 1)))) (
   sndC (sd_cmp_ne (ht := by decide) (hd := (by decide +kernel : decode cX11_gathers 68 = .ok (.if_icmp .ne 7, 3)))) (
   sndC (sd_iconst (hd := (by decide +kernel : decode cX11_gathers 71 = .ok (.iconst 1, 1))) (hv := by decide)) (
   sndC (sd_goto (ht := by decide) (hd := (by decide +kernel : decode cX11_gathers 72 = .ok (.goto 4, 3)))) (
   sndC (sd_iconst (hd := (by decide +kernel : decode cX11_gathers 75 = .ok (.iconst 0, 1))) (hv := by decide)) (
   sndC (sd_istore (hd := (by decide +kernel : decode cX11_gathers 76 = .ok (.istore 5, 2)))) (
   sndC (sd_iinc (hv := by decide) (hd := (by decide +kernel : decode cX11_gathers 78 = .ok (.iinc 6 1, 3)))) (
   sndC (sd_goto (ht := by decide) (hd := (by decide +kernel : decode cX11_gathers 81 = .ok (.goto (-43), 3)))) (
   sndC (sd_iload_n (hi := rfl) (hd := (by decide +kernel : decode cX11_gathers 84 = .ok (.iload_n 3, 1)))) (
   sndC (sd_iload (hd := (by decide +kernel : decode cX11_gathers 85 = .ok (.iload 5, 2)))) (
   sndC (sd_if_eq (ht := by decide) (hd := (by decide +kernel : decode cX11_gathers 87 = .ok (.ifCond .eq 7, 3)))) (
   sndC (sd_iconst (hd := (by decide +kernel : decode cX11_gathers 90 = .ok (.iconst 1, 1))) (hv := by decide)) (
   sndC (sd_goto (ht := by decide) (hd := (by decide +kernel : decode cX11_gathers 91 = .ok (.goto 4, 3)))) (
   sndC (sd_iconst (hd := (by decide +kernel : decode cX11_gathers 94 = .ok (.iconst 0, 1))) (hv := by decide)) (
   sndC (sd_iload (hd := (by decide +kernel : decode cX11_gathers 95 = .ok (.iload 4, 2)))) (
   sndC (sd_ishl (hd := (by decide +kernel : decode cX11_gathers 97 = .ok (.ishl, 1)))) (
   sndC (sd_ior (hd := (by decide +kernel : decode cX11_gathers 98 = .ok (.ior, 1)))) (
   sndC (sd_istore_n (hi := rfl) (hd := (by decide +kernel : decode cX11_gathers 99 = .ok (.istore_n 3, 1)))) (
   sndC (sd_iinc (hv := by decide) (hd := (by decide +kernel : decode cX11_gathers 100 = .ok (.iinc 4 1, 3)))) (
   sndC (sd_goto (ht := by decide) (hd := (by decide +kernel : decode cX11_gathers 103 = .ok (.goto (-80), 3)))) (
   sndC (sd_aload_n (hi := rfl) (hd := (by decide +kernel : decode cX11_gathers 106 = .ok (.aload_n 0, 1)))) (
   sndC (sd_get (C := RX11) (T := TX11) (N := 41) (hc := rfl) (hin0 := iX11) (hk := by decide) (hlink := w_1042) (hd := (by decide +kernel : decode cX11_gathers 107 = .ok (.getfield 38, 3)))) (
   sndC (sd_iload_n (hi := rfl) (hd := (by decide +kernel : decode cX11_gathers 110 = .ok (.iload_n 2, 1)))) (
   sndC (sd_iload_n (hi := rfl) (hd := (by decide +kernel : decode cX11_gathers 111 = .ok (.iload_n 3, 1)))) (
   sndC (sd_iast (hd := (by decide +kernel : decode cX11_gathers 112 = .ok (.iastore, 1)))) (
   sndC (sd_iinc (hv := by decide) (hd := (by decide +kernel : decode cX11_gathers 113 = .ok (.iinc 2 1, 3)))) (
   sndC (sd_goto (ht := by decide) (hd := (by decide +kernel : decode cX11_gathers 116 = .ok (.goto (-105), 3)))) (
   sndN)))))))))))))))))))))))))))))))))))))))))))))))))))))))))))⟩
theorem kX11_gathers_1 : CallAt mX11_gathers 1 0 mX11_tables 0 := ⟨by decide +kernel, ⟨_, (by decide +kernel : decode cX11_gathers 1 = .ok (.invokevirtual 362, 3)), w_1414, w_1416, w_101⟩⟩
theorem kX11_gathers_5 : CallAt mX11_gathers 5 0 mX11_lifeNow 0 := ⟨by decide +kernel, ⟨_, (by decide +kernel : decode cX11_gathers 5 = .ok (.invokevirtual 365, 3)), w_1421, w_1423, w_102⟩⟩
theorem kX11_gathers_56 : CallAt mX11_gathers 56 0 mX11_saysBy 3 := ⟨by decide +kernel, ⟨_, (by decide +kernel : decode cX11_gathers 56 = .ok (.invokevirtual 368, 3)), w_1425, w_1427, w_103⟩⟩
theorem kX11_gathers_65 : CallAt mX11_gathers 65 0 mX11_saysBy 3 := ⟨by decide +kernel, ⟨_, (by decide +kernel : decode cX11_gathers 65 = .ok (.invokevirtual 368, 3)), w_1425, w_1427, w_103⟩⟩

set_option maxRecDepth 20000 in
theorem GX11_sentSet : Good mX11_sentSet := ⟨by decide +kernel, List.mem_of_getElem? (i := 1438) (by decide +kernel), inX11, ⟨by decide +kernel, by decide +kernel⟩, by decide, show ∀ q ∈ tX11_sentSet, Snd mX11_sentSet q.1 q.2 from
  sndC (sd_iconst (hd := (by decide +kernel : decode cX11_sentSet 0 = .ok (.iconst 0, 1))) (hv := by decide)) (
   sndC (sd_istore_n (hi := rfl) (hd := (by decide +kernel : decode cX11_sentSet 1 = .ok (.istore_n 1, 1)))) (
   sndC (sd_iconst (hd := (by decide +kernel : decode cX11_sentSet 2 = .ok (.iconst 0, 1))) (hv := by decide)) (
   sndC (sd_istore_n (hi := rfl) (hd := (by decide +kernel : decode cX11_sentSet 3 = .ok (.istore_n 2, 1)))) (
   sndC (sd_iload_n (hi := rfl) (hd := (by decide +kernel : decode cX11_sentSet 4 = .ok (.iload_n 2, 1)))) (
   sndC (sd_aload_n (hi := rfl) (hd := (by decide +kernel : decode cX11_sentSet 5 = .ok (.aload_n 0, 1)))) (
   sndC (sd_get (C := RX11) (T := TX11) (N := 41) (hc := rfl) (hin0 := iX11) (hk := by decide) (hlink := w_1025) (hd := (by decide +kernel : decode cX11_sentSet 6 = .ok (.getfield 79, 3)))) (
   sndC (sd_cmp_ge (ht := by decide) (hd := (by decide +kernel : decode cX11_sentSet 9 = .ok (.if_icmp .ge 24, 3)))) (
   sndC (sd_iload_n (hi := rfl) (hd := (by decide +kernel : decode cX11_sentSet 12 = .ok (.iload_n 1, 1)))) (
   sndC (sd_aload_n (hi := rfl) (hd := (by decide +kernel : decode cX11_sentSet 13 = .ok (.aload_n 0, 1)))) (
   sndC (sd_get (C := RX11) (T := TX11) (N := 41) (hc := rfl) (hin0 := iX11) (hk := by decide) (hlink := w_1024) (hd := (by decide +kernel : decode cX11_sentSet 14 = .ok (.getfield 32, 3)))) (
   sndC (sd_iconst (hd := (by decide +kernel : decode cX11_sentSet 17 = .ok (.iconst 3, 1))) (hv := by decide)) (
   sndC (sd_iload_n (hi := rfl) (hd := (by decide +kernel : decode cX11_sentSet 18 = .ok (.iload_n 2, 1)))) (
   sndC (sd_imul (hd := (by decide +kernel : decode cX11_sentSet 19 = .ok (.imul, 1)))) (
   sndC (sd_iconst (hd := (by decide +kernel : decode cX11_sentSet 20 = .ok (.iconst 2, 1))) (hv := by decide)) (
   sndC (sd_iadd (hd := (by decide +kernel : decode cX11_sentSet 21 = .ok (.iadd, 1)))) (
   sndC (sd_iald (hd := (by decide +kernel : decode cX11_sentSet 22 = .ok (.iaload, 1)))) (
   sndC (sd_iload_n (hi := rfl) (hd := (by decide +kernel : decode cX11_sentSet 23 = .ok (.iload_n 2, 1)))) (
   sndC (sd_ishl (hd := (by decide +kernel : decode cX11_sentSet 24 = .ok (.ishl, 1)))) (
   sndC (sd_ior (hd := (by decide +kernel : decode cX11_sentSet 25 = .ok (.ior, 1)))) (
   sndC (sd_istore_n (hi := rfl) (hd := (by decide +kernel : decode cX11_sentSet 26 = .ok (.istore_n 1, 1)))) (
   sndC (sd_iinc (hv := by decide) (hd := (by decide +kernel : decode cX11_sentSet 27 = .ok (.iinc 2 1, 3)))) (
   sndC (sd_goto (ht := by decide) (hd := (by decide +kernel : decode cX11_sentSet 30 = .ok (.goto (-26), 3)))) (
   sndC (sd_iload_n (hi := rfl) (hd := (by decide +kernel : decode cX11_sentSet 33 = .ok (.iload_n 1, 1)))) (
   sndN))))))))))))))))))))))))⟩


set_option maxRecDepth 20000 in
theorem GX11_livesBy : Good mX11_livesBy := ⟨by decide +kernel, List.mem_of_getElem? (i := 1442) (by decide +kernel), inX11, ⟨by decide +kernel, by decide +kernel⟩, by decide, show ∀ q ∈ tX11_livesBy, Snd mX11_livesBy q.1 q.2 from
  sndC (sd_iconst (hd := (by decide +kernel : decode cX11_livesBy 0 = .ok (.iconst 0, 1))) (hv := by decide)) (
   sndC (sd_istore_n (hi := rfl) (hd := (by decide +kernel : decode cX11_livesBy 1 = .ok (.istore_n 2, 1)))) (
   sndC (sd_iconst (hd := (by decide +kernel : decode cX11_livesBy 2 = .ok (.iconst 0, 1))) (hv := by decide)) (
   sndC (sd_istore_n (hi := rfl) (hd := (by decide +kernel : decode cX11_livesBy 3 = .ok (.istore_n 3, 1)))) (
   sndC (sd_iload_n (hi := rfl) (hd := (by decide +kernel : decode cX11_livesBy 4 = .ok (.iload_n 3, 1)))) (
   sndC (sd_sipush (hd := (by decide +kernel : decode cX11_livesBy 5 = .ok (.sipush 4096, 3))) (hv := by decide)) (
   sndC (sd_cmp_ge (ht := by decide) (hd := (by decide +kernel : decode cX11_livesBy 8 = .ok (.if_icmp .ge 29, 3)))) (
   sndC (sd_iload_n (hi := rfl) (hd := (by decide +kernel : decode cX11_livesBy 11 = .ok (.iload_n 2, 1)))) (
   sndC (sd_aload_n (hi := rfl) (hd := (by decide +kernel : decode cX11_livesBy 12 = .ok (.aload_n 0, 1)))) (
   sndC (sd_get (C := RX11) (T := TX11) (N := 41) (hc := rfl) (hin0 := iX11) (hk := by decide) (hlink := w_1042) (hd := (by decide +kernel : decode cX11_livesBy 13 = .ok (.getfield 38, 3)))) (
   sndC (sd_iload_n (hi := rfl) (hd := (by decide +kernel : decode cX11_livesBy 16 = .ok (.iload_n 3, 1)))) (
   sndC (sd_iald (hd := (by decide +kernel : decode cX11_livesBy 17 = .ok (.iaload, 1)))) (
   sndC (sd_iload_n (hi := rfl) (hd := (by decide +kernel : decode cX11_livesBy 18 = .ok (.iload_n 1, 1)))) (
   sndC (sd_iand (hd := (by decide +kernel : decode cX11_livesBy 19 = .ok (.iand, 1)))) (
   sndC (sd_iload_n (hi := rfl) (hd := (by decide +kernel : decode cX11_livesBy 20 = .ok (.iload_n 1, 1)))) (
   sndC (sd_cmp_ne (ht := by decide) (hd := (by decide +kernel : decode cX11_livesBy 21 = .ok (.if_icmp .ne 7, 3)))) (
   sndC (sd_iconst (hd := (by decide +kernel : decode cX11_livesBy 24 = .ok (.iconst 1, 1))) (hv := by decide)) (
   sndC (sd_goto (ht := by decide) (hd := (by decide +kernel : decode cX11_livesBy 25 = .ok (.goto 4, 3)))) (
   sndC (sd_iconst (hd := (by decide +kernel : decode cX11_livesBy 28 = .ok (.iconst 0, 1))) (hv := by decide)) (
   sndC (sd_iadd (hd := (by decide +kernel : decode cX11_livesBy 29 = .ok (.iadd, 1)))) (
   sndC (sd_istore_n (hi := rfl) (hd := (by decide +kernel : decode cX11_livesBy 30 = .ok (.istore_n 2, 1)))) (
   sndC (sd_iinc (hv := by decide) (hd := (by decide +kernel : decode cX11_livesBy 31 = .ok (.iinc 3 1, 3)))) (
   sndC (sd_goto (ht := by decide) (hd := (by decide +kernel : decode cX11_livesBy 34 = .ok (.goto (-30), 3)))) (
   sndC (sd_iload_n (hi := rfl) (hd := (by decide +kernel : decode cX11_livesBy 37 = .ok (.iload_n 2, 1)))) (
   sndN))))))))))))))))))))))))⟩


set_option maxRecDepth 20000 in
theorem GX11_canBeBy : Good mX11_canBeBy := ⟨by decide +kernel, List.mem_of_getElem? (i := 1450) (by decide +kernel), inX11, ⟨by decide +kernel, by decide +kernel⟩, by decide, show ∀ q ∈ tX11_canBeBy, Snd mX11_canBeBy q.1 q.2 from
  sndC (sd_iconst (hd := (by decide +kernel : decode cX11_canBeBy 0 = .ok (.iconst 0, 1))) (hv := by decide)) (
   sndC (sd_istore_n (hi := rfl) (hd := (by decide +kernel : decode cX11_canBeBy 1 = .ok (.istore_n 3, 1)))) (
   sndC (sd_iconst (hd := (by decide +kernel : decode cX11_canBeBy 2 = .ok (.iconst 0, 1))) (hv := by decide)) (
   sndC (sd_istore (hd := (by decide +kernel : decode cX11_canBeBy 3 = .ok (.istore 4, 2)))) (
   sndC (sd_iload (hd := (by decide +kernel : decode cX11_canBeBy 5 = .ok (.iload 4, 2)))) (
   sndC (sd_sipush (hd := (by decide +kernel : decode cX11_canBeBy 7 = .ok (.sipush 4096, 3))) (hv := by decide)) (
   sndC (sd_cmp_ge (ht := by decide) (hd := (by decide +kernel : decode cX11_canBeBy 10 = .ok (.if_icmp .ge 37, 3)))) (
   sndC (sd_iload_n (hi := rfl) (hd := (by decide +kernel : decode cX11_canBeBy 13 = .ok (.iload_n 3, 1)))) (
   sndC (sd_aload_n (hi := rfl) (hd := (by decide +kernel : decode cX11_canBeBy 14 = .ok (.aload_n 0, 1)))) (
   sndC (sd_get (C := RX11) (T := TX11) (N := 41) (hc := rfl) (hin0 := iX11) (hk := by decide) (hlink := w_1042) (hd := (by decide +kernel : decode cX11_canBeBy 15 = .ok (.getfield 38, 3)))) (
   sndC (sd_iload (hd := (by decide +kernel : decode cX11_canBeBy 18 = .ok (.iload 4, 2)))) (
   sndC (sd_iald (hd := (by decide +kernel : decode cX11_canBeBy 20 = .ok (.iaload, 1)))) (
   sndC (sd_iload_n (hi := rfl) (hd := (by decide +kernel : decode cX11_canBeBy 21 = .ok (.iload_n 2, 1)))) (
   sndC (sd_iand (hd := (by decide +kernel : decode cX11_canBeBy 22 = .ok (.iand, 1)))) (
   sndC (sd_iload_n (hi := rfl) (hd := (by decide +kernel : decode cX11_canBeBy 23 = .ok (.iload_n 2, 1)))) (
   sndC (sd_cmp_ne (ht := by decide) (hd := (by decide +kernel : decode cX11_canBeBy 24 = .ok (.if_icmp .ne 14, 3)))) (
   sndC (sd_iconst (hd := (by decide +kernel : decode cX11_canBeBy 27 = .ok (.iconst 1, 1))) (hv := by decide)) (
   sndC (sd_iload (hd := (by decide +kernel : decode cX11_canBeBy 28 = .ok (.iload 4, 2)))) (
   sndC (sd_iload_n (hi := rfl) (hd := (by decide +kernel : decode cX11_canBeBy 30 = .ok (.iload_n 1, 1)))) (
   sndC (sd_ishl (hd := (by decide +kernel : decode cX11_canBeBy 34 = .ok (.ishl, 1)))) (
   sndC (sd_goto (ht := by decide) (hd := (by decide +kernel : decode cX11_canBeBy 35 = .ok (.goto 4, 3)))) (
   sndC (sd_iconst (hd := (by decide +kernel : decode cX11_canBeBy 38 = .ok (.iconst 0, 1))) (hv := by decide)) (
   sndC (sd_ior (hd := (by decide +kernel : decode cX11_canBeBy 39 = .ok (.ior, 1)))) (
   sndC (sd_istore_n (hi := rfl) (hd := (by decide +kernel : decode cX11_canBeBy 40 = .ok (.istore_n 3, 1)))) (
   sndC (sd_iinc (hv := by decide) (hd := (by decide +kernel : decode cX11_canBeBy 41 = .ok (.iinc 4 1, 3)))) (
   sndC (sd_goto (ht := by decide) (hd := (by decide +kernel : decode cX11_canBeBy 44 = .ok (.goto (-39), 3)))) (
   sndC (sd_iload_n (hi := rfl) (hd := (by decide +kernel : decode cX11_canBeBy 47 = .ok (.iload_n 3, 1)))) (
   sndN)))))))))))))))))))))))))))⟩
theorem kX11_canBeBy_31 : CallAt mX11_canBeBy 31 1 mX11_doing 2 := ⟨by decide +kernel, ⟨_, (by decide +kernel : decode cX11_canBeBy 31 = .ok (.invokestatic 353, 3)), w_1432, w_1433⟩⟩

set_option maxRecDepth 20000 in
theorem GX11_sure : Good mX11_sure := ⟨by decide +kernel, List.mem_of_getElem? (i := 1446) (by decide +kernel), inX11, ⟨by decide +kernel, by decide +kernel⟩, by decide, show ∀ q ∈ tX11_sure, Snd mX11_sure q.1 q.2 from
  sndC (sd_iconst (hd := (by decide +kernel : decode cX11_sure 0 = .ok (.iconst 0, 1))) (hv := by decide)) (
   sndC (sd_istore_n (hi := rfl) (hd := (by decide +kernel : decode cX11_sure 1 = .ok (.istore_n 1, 1)))) (
   sndC (sd_iconst (hd := (by decide +kernel : decode cX11_sure 2 = .ok (.iconst 0, 1))) (hv := by decide)) (
   sndC (sd_istore_n (hi := rfl) (hd := (by decide +kernel : decode cX11_sure 3 = .ok (.istore_n 2, 1)))) (
   sndC (sd_iload_n (hi := rfl) (hd := (by decide +kernel : decode cX11_sure 4 = .ok (.iload_n 2, 1)))) (
   sndC (sd_bipush (hd := (by decide +kernel : decode cX11_sure 5 = .ok (.bipush 6, 2))) (hv := by decide)) (
   sndC (sd_cmp_ge (ht := by decide) (hd := (by decide +kernel : decode cX11_sure 7 = .ok (.if_icmp .ge 35, 3)))) (
   sndC (sd_iload_n (hi := rfl) (hd := (by decide +kernel : decode cX11_sure 10 = .ok (.iload_n 1, 1)))) (
   sndC (sd_aload_n (hi := rfl) (hd := (by decide +kernel : decode cX11_sure 11 = .ok (.aload_n 0, 1)))) (
   sndC (sd_iload_n (hi := rfl) (hd := (by decide +kernel : decode cX11_sure 12 = .ok (.iload_n 2, 1)))) (
   sndC (sd_aload_n (hi := rfl) (hd := (by decide +kernel : decode cX11_sure 13 = .ok (.aload_n 0, 1)))) (
   sndC (sd_iconst (hd := (by decide +kernel : decode cX11_sure 23 = .ok (.iconst 1, 1))) (hv := by decide)) (
   sndC (sd_cmp_ne (ht := by decide) (hd := (by decide +kernel : decode cX11_sure 24 = .ok (.if_icmp .ne 7, 3)))) (
   sndC (sd_iconst (hd := (by decide +kernel : decode cX11_sure 27 = .ok (.iconst 1, 1))) (hv := by decide)) (
   sndC (sd_goto (ht := by decide) (hd := (by decide +kernel : decode cX11_sure 28 = .ok (.goto 4, 3)))) (
   sndC (sd_iconst (hd := (by decide +kernel : decode cX11_sure 31 = .ok (.iconst 0, 1))) (hv := by decide)) (
   sndC (sd_iload_n (hi := rfl) (hd := (by decide +kernel : decode cX11_sure 32 = .ok (.iload_n 2, 1)))) (
   sndC (sd_ishl (hd := (by decide +kernel : decode cX11_sure 33 = .ok (.ishl, 1)))) (
   sndC (sd_ior (hd := (by decide +kernel : decode cX11_sure 34 = .ok (.ior, 1)))) (
   sndC (sd_istore_n (hi := rfl) (hd := (by decide +kernel : decode cX11_sure 35 = .ok (.istore_n 1, 1)))) (
   sndC (sd_iinc (hv := by decide) (hd := (by decide +kernel : decode cX11_sure 36 = .ok (.iinc 2 1, 3)))) (
   sndC (sd_goto (ht := by decide) (hd := (by decide +kernel : decode cX11_sure 39 = .ok (.goto (-35), 3)))) (
   sndC (sd_iload_n (hi := rfl) (hd := (by decide +kernel : decode cX11_sure 42 = .ok (.iload_n 1, 1)))) (
   sndN)))))))))))))))))))))))⟩
theorem kX11_sure_14 : CallAt mX11_sure 14 0 mX11_sentSet 0 := ⟨by decide +kernel, ⟨_, (by decide +kernel : decode cX11_sure 14 = .ok (.invokevirtual 371, 3)), w_1435, w_1437, w_104⟩⟩
theorem kX11_sure_17 : CallAt mX11_sure 17 0 mX11_canBeBy 2 := ⟨by decide +kernel, ⟨_, (by decide +kernel : decode cX11_sure 17 = .ok (.invokevirtual 374, 3)), w_1447, w_1449, w_107⟩⟩
theorem kX11_sure_20 : CallAt mX11_sure 20 1 mX11_bitsOf 1 := ⟨by decide +kernel, ⟨_, (by decide +kernel : decode cX11_sure 20 = .ok (.invokestatic 338, 3)), w_1181, w_1182⟩⟩

set_option maxRecDepth 20000 in
theorem GX11_tellsValues : Good mX11_tellsValues := ⟨by decide +kernel, List.mem_of_getElem? (i := 1454) (by decide +kernel), inX11, ⟨by decide +kernel, by decide +kernel⟩, by decide, show ∀ q ∈ tX11_tellsValues, Snd mX11_tellsValues q.1 q.2 from
  sndC (sd_iconst (hd := (by decide +kernel : decode cX11_tellsValues 0 = .ok (.iconst 0, 1))) (hv := by decide)) (
   sndC (sd_istore_n (hi := rfl) (hd := (by decide +kernel : decode cX11_tellsValues 1 = .ok (.istore_n 2, 1)))) (
   sndC (sd_iload_n (hi := rfl) (hd := (by decide +kernel : decode cX11_tellsValues 2 = .ok (.iload_n 2, 1)))) (
   sndC (sd_bipush (hd := (by decide +kernel : decode cX11_tellsValues 3 = .ok (.bipush 6, 2))) (hv := by decide)) (
   sndC (sd_cmp_ge (ht := by decide) (hd := (by decide +kernel : decode cX11_tellsValues 5 = .ok (.if_icmp .ge 71, 3)))) (
   sndC (sd_iconst (hd := (by decide +kernel : decode cX11_tellsValues 8 = .ok (.iconst 0, 1))) (hv := by decide)) (
   sndC (sd_istore_n (hi := rfl) (hd := (by decide +kernel : decode cX11_tellsValues 9 = .ok (.istore_n 3, 1)))) (
   sndC (sd_iload_n (hi := rfl) (hd := (by decide +kernel : decode cX11_tellsValues 10 = .ok (.iload_n 3, 1)))) (
   sndC (sd_iload_n (hi := rfl) (hd := (by decide +kernel : decode cX11_tellsValues 11 = .ok (.iload_n 2, 1)))) (
   sndC (sd_if_ne (ht := by decide) (hd := (by decide +kernel : decode cX11_tellsValues 12 = .ok (.ifCond .ne 7, 3)))) (
   sndC (sd_iconst (hd := (by decide +kernel : decode cX11_tellsValues 15 = .ok (.iconst 1, 1))) (hv := by decide)) (
   sndC (sd_goto (ht := by decide) (hd := (by decide +kernel : decode cX11_tellsValues 16 = .ok (.goto 4, 3)))) (
   sndC (sd_iconst (hd := (by decide +kernel : decode cX11_tellsValues 19 = .ok (.iconst 4, 1))) (hv := by decide)) (
   sndC (sd_cmp_ge (ht := by decide) (hd := (by decide +kernel : decode cX11_tellsValues 20 = .ok (.if_icmp .ge 50, 3)))) (
   sndC (sd_iconst (hd := (by decide +kernel : decode cX11_tellsValues 23 = .ok (.iconst 0, 1))) (hv := by decide)) (
   sndC (sd_istore (hd := (by decide +kernel : decode cX11_tellsValues 24 = .ok (.istore 4, 2)))) (
   sndC (sd_iload (hd := (by decide +kernel : decode cX11_tellsValues 26 = .ok (.iload 4, 2)))) (
   sndC (sd_iconst (hd := (by decide +kernel : decode cX11_tellsValues 28 = .ok (.iconst 4, 1))) (hv := by decide)) (
   sndC (sd_cmp_ge (ht := by decide) (hd := (by decide +kernel : decode cX11_tellsValues 29 = .ok (.if_icmp .ge 35, 3)))) (
   sndC (sd_aload_n (hi := rfl) (hd := (by decide +kernel : decode cX11_tellsValues 32 = .ok (.aload_n 0, 1)))) (
   sndC (sd_get (C := RX11) (T := TX11) (N := 41) (hc := rfl) (hin0 := iX11) (hk := by decide) (hlink := w_1043) (hd := (by decide +kernel : decode cX11_tellsValues 33 = .ok (.getfield 41, 3)))) (
   sndC (sd_bipush (hd := (by decide +kernel : decode cX11_tellsValues 36 = .ok (.bipush 16, 2))) (hv := by decide)) (
   sndC (sd_iload_n (hi := rfl) (hd := (by decide +kernel : decode cX11_tellsValues 38 = .ok (.iload_n 2, 1)))) (
   sndC (sd_imul (hd := (by decide +kernel : decode cX11_tellsValues 39 = .ok (.imul, 1)))) (
   sndC (sd_iconst (hd := (by decide +kernel : decode cX11_tellsValues 40 = .ok (.iconst 4, 1))) (hv := by decide)) (
   sndC (sd_iload_n (hi := rfl) (hd := (by decide +kernel : decode cX11_tellsValues 41 = .ok (.iload_n 3, 1)))) (
   sndC (sd_imul (hd := (by decide +kernel : decode cX11_tellsValues 42 = .ok (.imul, 1)))) (
   sndC (sd_iadd (hd := (by decide +kernel : decode cX11_tellsValues 43 = .ok (.iadd, 1)))) (
   sndC (sd_iload (hd := (by decide +kernel : decode cX11_tellsValues 44 = .ok (.iload 4, 2)))) (
   sndC (sd_iadd (hd := (by decide +kernel : decode cX11_tellsValues 46 = .ok (.iadd, 1)))) (
   sndC (sd_aload_n (hi := rfl) (hd := (by decide +kernel : decode cX11_tellsValues 47 = .ok (.aload_n 0, 1)))) (
   sndC (sd_iload_n (hi := rfl) (hd := (by decide +kernel : decode cX11_tellsValues 48 = .ok (.iload_n 1, 1)))) (
   sndC (sd_iconst (hd := (by decide +kernel : decode cX11_tellsValues 49 = .ok (.iconst (-1), 1))) (hv := by decide)) (
   sndC (sd_iload_n (hi := rfl) (hd := (by decide +kernel : decode cX11_tellsValues 50 = .ok (.iload_n 2, 1)))) (
   sndC (sd_iload (hd := (by decide +kernel : decode cX11_tellsValues 51 = .ok (.iload 4, 2)))) (
   sndC (sd_iload_n (hi := rfl) (hd := (by decide +kernel : decode cX11_tellsValues 53 = .ok (.iload_n 3, 1)))) (
   sndC (sd_iast (hd := (by decide +kernel : decode cX11_tellsValues 57 = .ok (.iastore, 1)))) (
   sndC (sd_iinc (hv := by decide) (hd := (by decide +kernel : decode cX11_tellsValues 58 = .ok (.iinc 4 1, 3)))) (
   sndC (sd_goto (ht := by decide) (hd := (by decide +kernel : decode cX11_tellsValues 61 = .ok (.goto (-35), 3)))) (
   sndC (sd_iinc (hv := by decide) (hd := (by decide +kernel : decode cX11_tellsValues 64 = .ok (.iinc 3 1, 3)))) (
   sndC (sd_goto (ht := by decide) (hd := (by decide +kernel : decode cX11_tellsValues 67 = .ok (.goto (-57), 3)))) (
   sndC (sd_iinc (hv := by decide) (hd := (by decide +kernel : decode cX11_tellsValues 70 = .ok (.iinc 2 1, 3)))) (
   sndC (sd_goto (ht := by decide) (hd := (by decide +kernel : decode cX11_tellsValues 73 = .ok (.goto (-71), 3)))) (
   sndN)))))))))))))))))))))))))))))))))))))))))))⟩
theorem kX11_tellsValues_54 : CallAt mX11_tellsValues 54 0 mX11_asks 5 := ⟨by decide +kernel, ⟨_, (by decide +kernel : decode cX11_tellsValues 54 = .ok (.invokevirtual 345, 3)), w_1177, w_1179, w_51⟩⟩

set_option maxRecDepth 20000 in
theorem GX11_valueOf : Good mX11_valueOf := ⟨by decide +kernel, List.mem_of_getElem? (i := 1458) (by decide +kernel), inX11, ⟨by decide +kernel, by decide +kernel⟩, by decide, show ∀ q ∈ tX11_valueOf, Snd mX11_valueOf q.1 q.2 from
  sndC (sd_iconst (hd := (by decide +kernel : decode cX11_valueOf 0 = .ok (.iconst 0, 1))) (hv := by decide)) (
   sndC (sd_istore_n (hi := rfl) (hd := (by decide +kernel : decode cX11_valueOf 1 = .ok (.istore_n 2, 1)))) (
   sndC (sd_iconst (hd := (by decide +kernel : decode cX11_valueOf 2 = .ok (.iconst 0, 1))) (hv := by decide)) (
   sndC (sd_istore_n (hi := rfl) (hd := (by decide +kernel : decode cX11_valueOf 3 = .ok (.istore_n 3, 1)))) (
   sndC (sd_iload_n (hi := rfl) (hd := (by decide +kernel : decode cX11_valueOf 4 = .ok (.iload_n 3, 1)))) (
   sndC (sd_bipush (hd := (by decide +kernel : decode cX11_valueOf 5 = .ok (.bipush 6, 2))) (hv := by decide)) (
   sndC (sd_cmp_ge (ht := by decide) (hd := (by decide +kernel : decode cX11_valueOf 7 = .ok (.if_icmp .ge 35, 3)))) (
   sndC (sd_iload_n (hi := rfl) (hd := (by decide +kernel : decode cX11_valueOf 10 = .ok (.iload_n 2, 1)))) (
   sndC (sd_aload_n (hi := rfl) (hd := (by decide +kernel : decode cX11_valueOf 11 = .ok (.aload_n 0, 1)))) (
   sndC (sd_get (C := RX11) (T := TX11) (N := 41) (hc := rfl) (hin0 := iX11) (hk := by decide) (hlink := w_1043) (hd := (by decide +kernel : decode cX11_valueOf 12 = .ok (.getfield 41, 3)))) (
   sndC (sd_bipush (hd := (by decide +kernel : decode cX11_valueOf 15 = .ok (.bipush 16, 2))) (hv := by decide)) (
   sndC (sd_iload_n (hi := rfl) (hd := (by decide +kernel : decode cX11_valueOf 17 = .ok (.iload_n 3, 1)))) (
   sndC (sd_imul (hd := (by decide +kernel : decode cX11_valueOf 18 = .ok (.imul, 1)))) (
   sndC (sd_iconst (hd := (by decide +kernel : decode cX11_valueOf 19 = .ok (.iconst 4, 1))) (hv := by decide)) (
   sndC (sd_iload_n (hi := rfl) (hd := (by decide +kernel : decode cX11_valueOf 20 = .ok (.iload_n 1, 1)))) (
   sndC (sd_iload_n (hi := rfl) (hd := (by decide +kernel : decode cX11_valueOf 21 = .ok (.iload_n 3, 1)))) (
   sndC (sd_imul (hd := (by decide +kernel : decode cX11_valueOf 25 = .ok (.imul, 1)))) (
   sndC (sd_iadd (hd := (by decide +kernel : decode cX11_valueOf 26 = .ok (.iadd, 1)))) (
   sndC (sd_iload_n (hi := rfl) (hd := (by decide +kernel : decode cX11_valueOf 27 = .ok (.iload_n 1, 1)))) (
   sndC (sd_iload_n (hi := rfl) (hd := (by decide +kernel : decode cX11_valueOf 28 = .ok (.iload_n 3, 1)))) (
   sndC (sd_iadd (hd := (by decide +kernel : decode cX11_valueOf 32 = .ok (.iadd, 1)))) (
   sndC (sd_iald (hd := (by decide +kernel : decode cX11_valueOf 33 = .ok (.iaload, 1)))) (
   sndC (sd_iadd (hd := (by decide +kernel : decode cX11_valueOf 34 = .ok (.iadd, 1)))) (
   sndC (sd_istore_n (hi := rfl) (hd := (by decide +kernel : decode cX11_valueOf 35 = .ok (.istore_n 2, 1)))) (
   sndC (sd_iinc (hv := by decide) (hd := (by decide +kernel : decode cX11_valueOf 36 = .ok (.iinc 3 1, 3)))) (
   sndC (sd_goto (ht := by decide) (hd := (by decide +kernel : decode cX11_valueOf 39 = .ok (.goto (-35), 3)))) (
   sndC (sd_iload_n (hi := rfl) (hd := (by decide +kernel : decode cX11_valueOf 42 = .ok (.iload_n 2, 1)))) (
   sndN)))))))))))))))))))))))))))⟩
theorem kX11_valueOf_22 : CallAt mX11_valueOf 22 1 mX11_lastOf 2 := ⟨by decide +kernel, ⟨_, (by decide +kernel : decode cX11_valueOf 22 = .ok (.invokestatic 356, 3)), w_1429, w_1430⟩⟩
theorem kX11_valueOf_29 : CallAt mX11_valueOf 29 1 mX11_doing 2 := ⟨by decide +kernel, ⟨_, (by decide +kernel : decode cX11_valueOf 29 = .ok (.invokestatic 353, 3)), w_1432, w_1433⟩⟩

set_option maxRecDepth 20000 in
theorem GX11_all : Good mX11_all := ⟨by decide +kernel, List.mem_of_getElem? (i := 1408) (by decide +kernel), inX11, ⟨by decide +kernel, by decide +kernel⟩, by decide, show ∀ q ∈ tX11_all, Snd mX11_all q.1 q.2 from
  sndC (sd_iload_n (hi := rfl) (hd := (by decide +kernel : decode cX11_all 0 = .ok (.iload_n 1, 1)))) (
   sndC (sd_i2l (hd := (by decide +kernel : decode cX11_all 1 = .ok (.i2l, 1)))) (
   sndC (sd_lconst (hd := (by decide +kernel : decode cX11_all 2 = .ok (.lconst 0, 1))) (hv := by decide)) (
   sndC (sd_ldc2 (hw := w_1154) (hd := (by decide +kernel : decode cX11_all 3 = .ok (.ldc2_w 86, 3)))) (
   sndC (sd_if_ne (ht := by decide) (hd := (by decide +kernel : decode cX11_all 9 = .ok (.ifCond .ne 7, 3)))) (
   sndC (sd_ldcw (hw := w_1409) (hd := (by decide +kernel : decode cX11_all 12 = .ok (.ldc_w 377, 3)))) (
   sndC (sd_iload_n (hi := rfl) (hd := (by decide +kernel : decode cX11_all 16 = .ok (.iload_n 1, 1)))) (
   sndC (sd_iconst (hd := (by decide +kernel : decode cX11_all 17 = .ok (.iconst 3, 1))) (hv := by decide)) (
   sndC (sd_cmp_ge (ht := by decide) (hd := (by decide +kernel : decode cX11_all 18 = .ok (.if_icmp .ge 42, 3)))) (
   sndC (sd_aload_n (hi := rfl) (hd := (by decide +kernel : decode cX11_all 21 = .ok (.aload_n 0, 1)))) (
   sndC (sd_iload_n (hi := rfl) (hd := (by decide +kernel : decode cX11_all 25 = .ok (.iload_n 1, 1)))) (
   sndC (sd_if_ne (ht := by decide) (hd := (by decide +kernel : decode cX11_all 26 = .ok (.ifCond .ne 14, 3)))) (
   sndC (sd_aload_n (hi := rfl) (hd := (by decide +kernel : decode cX11_all 29 = .ok (.aload_n 0, 1)))) (
   sndC (sd_aload_n (hi := rfl) (hd := (by decide +kernel : decode cX11_all 30 = .ok (.aload_n 0, 1)))) (
   sndC (sd_goto (ht := by decide) (hd := (by decide +kernel : decode cX11_all 37 = .ok (.goto 22, 3)))) (
   sndC (sd_iload_n (hi := rfl) (hd := (by decide +kernel : decode cX11_all 40 = .ok (.iload_n 1, 1)))) (
   sndC (sd_iconst (hd := (by decide +kernel : decode cX11_all 41 = .ok (.iconst 1, 1))) (hv := by decide)) (
   sndC (sd_cmp_ne (ht := by decide) (hd := (by decide +kernel : decode cX11_all 42 = .ok (.if_icmp .ne 10, 3)))) (
   sndC (sd_aload_n (hi := rfl) (hd := (by decide +kernel : decode cX11_all 45 = .ok (.aload_n 0, 1)))) (
   sndC (sd_goto (ht := by decide) (hd := (by decide +kernel : decode cX11_all 49 = .ok (.goto 10, 3)))) (
   sndC (sd_aload_n (hi := rfl) (hd := (by decide +kernel : decode cX11_all 52 = .ok (.aload_n 0, 1)))) (
   sndC (sd_iload_n (hi := rfl) (hd := (by decide +kernel : decode cX11_all 60 = .ok (.iload_n 1, 1)))) (
   sndC (sd_iconst (hd := (by decide +kernel : decode cX11_all 61 = .ok (.iconst 5, 1))) (hv := by decide)) (
   sndC (sd_cmp_ge (ht := by decide) (hd := (by decide +kernel : decode cX11_all 62 = .ok (.if_icmp .ge 26, 3)))) (
   sndC (sd_aload_n (hi := rfl) (hd := (by decide +kernel : decode cX11_all 65 = .ok (.aload_n 0, 1)))) (
   sndC (sd_iload_n (hi := rfl) (hd := (by decide +kernel : decode cX11_all 66 = .ok (.iload_n 1, 1)))) (
   sndC (sd_iconst (hd := (by decide +kernel : decode cX11_all 67 = .ok (.iconst 3, 1))) (hv := by decide)) (
   sndC (sd_cmp_ne (ht := by decide) (hd := (by decide +kernel : decode cX11_all 68 = .ok (.if_icmp .ne 7, 3)))) (
   sndC (sd_iconst (hd := (by decide +kernel : decode cX11_all 71 = .ok (.iconst 0, 1))) (hv := by decide)) (
   sndC (sd_goto (ht := by decide) (hd := (by decide +kernel : decode cX11_all 72 = .ok (.goto 4, 3)))) (
   sndC (sd_iconst (hd := (by decide +kernel : decode cX11_all 75 = .ok (.iconst 2, 1))) (hv := by decide)) (
   sndC (sd_aload_n (hi := rfl) (hd := (by decide +kernel : decode cX11_all 79 = .ok (.aload_n 0, 1)))) (
   sndC (sd_aload_n (hi := rfl) (hd := (by decide +kernel : decode cX11_all 80 = .ok (.aload_n 0, 1)))) (
   sndC (sd_aload_n (hi := rfl) (hd := (by decide +kernel : decode cX11_all 88 = .ok (.aload_n 0, 1)))) (
   sndC (sd_aload_n (hi := rfl) (hd := (by decide +kernel : decode cX11_all 89 = .ok (.aload_n 0, 1)))) (
   sndN)))))))))))))))))))))))))))))))))))⟩
theorem kX11_all_6 : CallAt mX11_all 6 1 mX11_in 3 := ⟨by decide +kernel, ⟨_, (by decide +kernel : decode cX11_all 6 = .ok (.invokestatic 82, 3)), w_1144, w_1145⟩⟩
theorem kX11_all_22 : CallAt mX11_all 22 0 mX11_gathers 0 := ⟨by decide +kernel, ⟨_, (by decide +kernel : decode cX11_all 22 = .ok (.invokevirtual 378, 3)), w_1410, w_1412, w_100⟩⟩
theorem kX11_all_31 : CallAt mX11_all 31 0 mX11_sentSet 0 := ⟨by decide +kernel, ⟨_, (by decide +kernel : decode cX11_all 31 = .ok (.invokevirtual 371, 3)), w_1435, w_1437, w_104⟩⟩
theorem kX11_all_34 : CallAt mX11_all 34 0 mX11_livesBy 1 := ⟨by decide +kernel, ⟨_, (by decide +kernel : decode cX11_all 34 = .ok (.invokevirtual 381, 3)), w_1439, w_1441, w_105⟩⟩
theorem kX11_all_46 : CallAt mX11_all 46 0 mX11_sure 0 := ⟨by decide +kernel, ⟨_, (by decide +kernel : decode cX11_all 46 = .ok (.invokevirtual 384, 3)), w_1443, w_1445, w_106⟩⟩
theorem kX11_all_53 : CallAt mX11_all 53 0 mX11_sure 0 := ⟨by decide +kernel, ⟨_, (by decide +kernel : decode cX11_all 53 = .ok (.invokevirtual 384, 3)), w_1443, w_1445, w_106⟩⟩
theorem kX11_all_56 : CallAt mX11_all 56 1 mX11_bitsOf 1 := ⟨by decide +kernel, ⟨_, (by decide +kernel : decode cX11_all 56 = .ok (.invokestatic 338, 3)), w_1181, w_1182⟩⟩
theorem kX11_all_76 : CallAt mX11_all 76 0 mX11_tellsValues 1 := ⟨by decide +kernel, ⟨_, (by decide +kernel : decode cX11_all 76 = .ok (.invokevirtual 387, 3)), w_1451, w_1453, w_108⟩⟩
theorem kX11_all_81 : CallAt mX11_all 81 0 mX11_lifeNow 0 := ⟨by decide +kernel, ⟨_, (by decide +kernel : decode cX11_all 81 = .ok (.invokevirtual 365, 3)), w_1421, w_1423, w_102⟩⟩
theorem kX11_all_84 : CallAt mX11_all 84 0 mX11_valueOf 1 := ⟨by decide +kernel, ⟨_, (by decide +kernel : decode cX11_all 84 = .ok (.invokevirtual 391, 3)), w_1455, w_1457, w_109⟩⟩
theorem kX11_all_90 : CallAt mX11_all 90 0 mX11_sentSet 0 := ⟨by decide +kernel, ⟨_, (by decide +kernel : decode cX11_all 90 = .ok (.invokevirtual 371, 3)), w_1435, w_1437, w_104⟩⟩
theorem kX11_all_93 : CallAt mX11_all 93 0 mX11_costsBy 1 := ⟨by decide +kernel, ⟨_, (by decide +kernel : decode cX11_all 93 = .ok (.invokevirtual 394, 3)), w_1459, w_1461, w_110⟩⟩

set_option maxRecDepth 20000 in
theorem GX11_costsBy : Good mX11_costsBy := ⟨by decide +kernel, List.mem_of_getElem? (i := 1462) (by decide +kernel), inX11, ⟨by decide +kernel, by decide +kernel⟩, by decide, show ∀ q ∈ tX11_costsBy, Snd mX11_costsBy q.1 q.2 from
  sndC (sd_iconst (hd := (by decide +kernel : decode cX11_costsBy 0 = .ok (.iconst 0, 1))) (hv := by decide)) (
   sndC (sd_istore_n (hi := rfl) (hd := (by decide +kernel : decode cX11_costsBy 1 = .ok (.istore_n 2, 1)))) (
   sndC (sd_iconst (hd := (by decide +kernel : decode cX11_costsBy 2 = .ok (.iconst 0, 1))) (hv := by decide)) (
   sndC (sd_istore_n (hi := rfl) (hd := (by decide +kernel : decode cX11_costsBy 3 = .ok (.istore_n 3, 1)))) (
   sndC (sd_iload_n (hi := rfl) (hd := (by decide +kernel : decode cX11_costsBy 4 = .ok (.iload_n 3, 1)))) (
   sndC (sd_aload_n (hi := rfl) (hd := (by decide +kernel : decode cX11_costsBy 5 = .ok (.aload_n 0, 1)))) (
   sndC (sd_get (C := RX11) (T := TX11) (N := 41) (hc := rfl) (hin0 := iX11) (hk := by decide) (hlink := w_1025) (hd := (by decide +kernel : decode cX11_costsBy 6 = .ok (.getfield 79, 3)))) (
   sndC (sd_cmp_ge (ht := by decide) (hd := (by decide +kernel : decode cX11_costsBy 9 = .ok (.if_icmp .ge 30, 3)))) (
   sndC (sd_iload_n (hi := rfl) (hd := (by decide +kernel : decode cX11_costsBy 12 = .ok (.iload_n 2, 1)))) (
   sndC (sd_iload_n (hi := rfl) (hd := (by decide +kernel : decode cX11_costsBy 13 = .ok (.iload_n 1, 1)))) (
   sndC (sd_iload_n (hi := rfl) (hd := (by decide +kernel : decode cX11_costsBy 14 = .ok (.iload_n 3, 1)))) (
   sndC (sd_ishr (hd := (by decide +kernel : decode cX11_costsBy 15 = .ok (.ishr, 1)))) (
   sndC (sd_iconst (hd := (by decide +kernel : decode cX11_costsBy 16 = .ok (.iconst 1, 1))) (hv := by decide)) (
   sndC (sd_iand (hd := (by decide +kernel : decode cX11_costsBy 17 = .ok (.iand, 1)))) (
   sndC (sd_iconst (hd := (by decide +kernel : decode cX11_costsBy 18 = .ok (.iconst 1, 1))) (hv := by decide)) (
   sndC (sd_cmp_ne (ht := by decide) (hd := (by decide +kernel : decode cX11_costsBy 19 = .ok (.if_icmp .ne 11, 3)))) (
   sndC (sd_aload_n (hi := rfl) (hd := (by decide +kernel : decode cX11_costsBy 22 = .ok (.aload_n 0, 1)))) (
   sndC (sd_iload_n (hi := rfl) (hd := (by decide +kernel : decode cX11_costsBy 23 = .ok (.iload_n 3, 1)))) (
   sndC (sd_goto (ht := by decide) (hd := (by decide +kernel : decode cX11_costsBy 27 = .ok (.goto 4, 3)))) (
   sndC (sd_iconst (hd := (by decide +kernel : decode cX11_costsBy 30 = .ok (.iconst 0, 1))) (hv := by decide)) (
   sndC (sd_iadd (hd := (by decide +kernel : decode cX11_costsBy 31 = .ok (.iadd, 1)))) (
   sndC (sd_istore_n (hi := rfl) (hd := (by decide +kernel : decode cX11_costsBy 32 = .ok (.istore_n 2, 1)))) (
   sndC (sd_iinc (hv := by decide) (hd := (by decide +kernel : decode cX11_costsBy 33 = .ok (.iinc 3 1, 3)))) (
   sndC (sd_goto (ht := by decide) (hd := (by decide +kernel : decode cX11_costsBy 36 = .ok (.goto (-32), 3)))) (
   sndC (sd_iload_n (hi := rfl) (hd := (by decide +kernel : decode cX11_costsBy 39 = .ok (.iload_n 2, 1)))) (
   sndN)))))))))))))))))))))))))⟩
theorem kX11_costsBy_24 : CallAt mX11_costsBy 24 0 mX11_costsOf 1 := ⟨by decide +kernel, ⟨_, (by decide +kernel : decode cX11_costsBy 24 = .ok (.invokevirtual 129, 3)), w_1377, w_1379, w_98⟩⟩

set_option maxRecDepth 20000 in
theorem GX11_canBe : Good mX11_canBe := ⟨by decide +kernel, List.mem_of_getElem? (i := 1466) (by decide +kernel), inX11, ⟨by decide +kernel, by decide +kernel⟩, by decide, show ∀ q ∈ tX11_canBe, Snd mX11_canBe q.1 q.2 from
  sndC (sd_iload_n (hi := rfl) (hd := (by decide +kernel : decode cX11_canBe 0 = .ok (.iload_n 1, 1)))) (
   sndC (sd_if_ne (ht := by decide) (hd := (by decide +kernel : decode cX11_canBe 4 = .ok (.ifCond .ne 6, 3)))) (
   sndC (sd_bipush (hd := (by decide +kernel : decode cX11_canBe 7 = .ok (.bipush (-2), 2))) (hv := by decide)) (
   sndC (sd_aload_n (hi := rfl) (hd := (by decide +kernel : decode cX11_canBe 10 = .ok (.aload_n 0, 1)))) (
   sndC (sd_aload_n (hi := rfl) (hd := (by decide +kernel : decode cX11_canBe 14 = .ok (.aload_n 0, 1)))) (
   sndC (sd_iload_n (hi := rfl) (hd := (by decide +kernel : decode cX11_canBe 15 = .ok (.iload_n 1, 1)))) (
   sndC (sd_aload_n (hi := rfl) (hd := (by decide +kernel : decode cX11_canBe 16 = .ok (.aload_n 0, 1)))) (
   sndN)))))))⟩
theorem kX11_canBe_1 : CallAt mX11_canBe 1 1 mX11_isStep 1 := ⟨by decide +kernel, ⟨_, (by decide +kernel : decode cX11_canBe 1 = .ok (.invokestatic 88, 3)), w_1151, w_1152⟩⟩
theorem kX11_canBe_11 : CallAt mX11_canBe 11 0 mX11_gathers 0 := ⟨by decide +kernel, ⟨_, (by decide +kernel : decode cX11_canBe 11 = .ok (.invokevirtual 378, 3)), w_1410, w_1412, w_100⟩⟩
theorem kX11_canBe_17 : CallAt mX11_canBe 17 0 mX11_sentSet 0 := ⟨by decide +kernel, ⟨_, (by decide +kernel : decode cX11_canBe 17 = .ok (.invokevirtual 371, 3)), w_1435, w_1437, w_104⟩⟩
theorem kX11_canBe_20 : CallAt mX11_canBe 20 0 mX11_canBeBy 2 := ⟨by decide +kernel, ⟨_, (by decide +kernel : decode cX11_canBe 20 = .ok (.invokevirtual 374, 3)), w_1447, w_1449, w_107⟩⟩

set_option maxRecDepth 20000 in
theorem GX11_fit : Good mX11_fit := ⟨by decide +kernel, List.mem_of_getElem? (i := 1470) (by decide +kernel), inX11, ⟨by decide +kernel, by decide +kernel⟩, by decide, show ∀ q ∈ tX11_fit, Snd mX11_fit q.1 q.2 from
  sndC (sd_iload_n (hi := rfl) (hd := (by decide +kernel : decode cX11_fit 0 = .ok (.iload_n 1, 1)))) (
   sndC (sd_if_ge (ht := by decide) (hd := (by decide +kernel : decode cX11_fit 1 = .ok (.ifCond .ge 6, 3)))) (
   sndC (sd_bipush (hd := (by decide +kernel : decode cX11_fit 4 = .ok (.bipush (-2), 2))) (hv := by decide)) (
   sndC (sd_aload_n (hi := rfl) (hd := (by decide +kernel : decode cX11_fit 7 = .ok (.aload_n 0, 1)))) (
   sndC (sd_aload_n (hi := rfl) (hd := (by decide +kernel : decode cX11_fit 11 = .ok (.aload_n 0, 1)))) (
   sndC (sd_istore_n (hi := rfl) (hd := (by decide +kernel : decode cX11_fit 15 = .ok (.istore_n 2, 1)))) (
   sndC (sd_iload_n (hi := rfl) (hd := (by decide +kernel : decode cX11_fit 16 = .ok (.iload_n 1, 1)))) (
   sndC (sd_istore_n (hi := rfl) (hd := (by decide +kernel : decode cX11_fit 17 = .ok (.istore_n 3, 1)))) (
   sndC (sd_iconst (hd := (by decide +kernel : decode cX11_fit 18 = .ok (.iconst 0, 1))) (hv := by decide)) (
   sndC (sd_istore (hd := (by decide +kernel : decode cX11_fit 19 = .ok (.istore 4, 2)))) (
   sndC (sd_iload (hd := (by decide +kernel : decode cX11_fit 21 = .ok (.iload 4, 2)))) (
   sndC (sd_sipush (hd := (by decide +kernel : decode cX11_fit 23 = .ok (.sipush 4096, 3))) (hv := by decide)) (
   sndC (sd_cmp_ge (ht := by decide) (hd := (by decide +kernel : decode cX11_fit 26 = .ok (.if_icmp .ge 35, 3)))) (
   sndC (sd_aload_n (hi := rfl) (hd := (by decide +kernel : decode cX11_fit 29 = .ok (.aload_n 0, 1)))) (
   sndC (sd_get (C := RX11) (T := TX11) (N := 41) (hc := rfl) (hin0 := iX11) (hk := by decide) (hlink := w_1042) (hd := (by decide +kernel : decode cX11_fit 30 = .ok (.getfield 38, 3)))) (
   sndC (sd_iload (hd := (by decide +kernel : decode cX11_fit 33 = .ok (.iload 4, 2)))) (
   sndC (sd_iald (hd := (by decide +kernel : decode cX11_fit 35 = .ok (.iaload, 1)))) (
   sndC (sd_iload_n (hi := rfl) (hd := (by decide +kernel : decode cX11_fit 36 = .ok (.iload_n 2, 1)))) (
   sndC (sd_iand (hd := (by decide +kernel : decode cX11_fit 37 = .ok (.iand, 1)))) (
   sndC (sd_iload_n (hi := rfl) (hd := (by decide +kernel : decode cX11_fit 38 = .ok (.iload_n 2, 1)))) (
   sndC (sd_cmp_ne (ht := by decide) (hd := (by decide +kernel : decode cX11_fit 39 = .ok (.if_icmp .ne 16, 3)))) (
   sndC (sd_iload_n (hi := rfl) (hd := (by decide +kernel : decode cX11_fit 42 = .ok (.iload_n 3, 1)))) (
   sndC (sd_if_ne (ht := by decide) (hd := (by decide +kernel : decode cX11_fit 43 = .ok (.ifCond .ne 9, 3)))) (
   sndC (sd_iload (hd := (by decide +kernel : decode cX11_fit 46 = .ok (.iload 4, 2)))) (
   sndC (sd_iinc (hv := by decide) (hd := (by decide +kernel : decode cX11_fit 52 = .ok (.iinc 3 (-1), 3)))) (
   sndC (sd_iinc (hv := by decide) (hd := (by decide +kernel : decode cX11_fit 55 = .ok (.iinc 4 1, 3)))) (
   sndC (sd_goto (ht := by decide) (hd := (by decide +kernel : decode cX11_fit 58 = .ok (.goto (-37), 3)))) (
   sndC (sd_iconst (hd := (by decide +kernel : decode cX11_fit 61 = .ok (.iconst (-1), 1))) (hv := by decide)) (
   sndN))))))))))))))))))))))))))))⟩
theorem kX11_fit_8 : CallAt mX11_fit 8 0 mX11_gathers 0 := ⟨by decide +kernel, ⟨_, (by decide +kernel : decode cX11_fit 8 = .ok (.invokevirtual 378, 3)), w_1410, w_1412, w_100⟩⟩
theorem kX11_fit_12 : CallAt mX11_fit 12 0 mX11_sentSet 0 := ⟨by decide +kernel, ⟨_, (by decide +kernel : decode cX11_fit 12 = .ok (.invokevirtual 371, 3)), w_1435, w_1437, w_104⟩⟩
theorem kX11_fit_48 : CallAt mX11_fit 48 1 mX11_digits 1 := ⟨by decide +kernel, ⟨_, (by decide +kernel : decode cX11_fit 48 = .ok (.invokestatic 397, 3)), w_1471, w_1472⟩⟩

set_option maxRecDepth 20000 in
theorem GX11_life : Good mX11_life := ⟨by decide +kernel, List.mem_of_getElem? (i := 1477) (by decide +kernel), inX11, ⟨by decide +kernel, by decide +kernel⟩, by decide, show ∀ q ∈ tX11_life, Snd mX11_life q.1 q.2 from
  sndC (sd_iload_n (hi := rfl) (hd := (by decide +kernel : decode cX11_life 0 = .ok (.iload_n 1, 1)))) (
   sndC (sd_i2l (hd := (by decide +kernel : decode cX11_life 1 = .ok (.i2l, 1)))) (
   sndC (sd_lconst (hd := (by decide +kernel : decode cX11_life 2 = .ok (.lconst 0, 1))) (hv := by decide)) (
   sndC (sd_lconst (hd := (by decide +kernel : decode cX11_life 3 = .ok (.lconst 1, 1))) (hv := by decide)) (
   sndC (sd_if_eq (ht := by decide) (hd := (by decide +kernel : decode cX11_life 7 = .ok (.ifCond .eq 13, 3)))) (
   sndC (sd_iload_n (hi := rfl) (hd := (by decide +kernel : decode cX11_life 10 = .ok (.iload_n 2, 1)))) (
   sndC (sd_i2l (hd := (by decide +kernel : decode cX11_life 11 = .ok (.i2l, 1)))) (
   sndC (sd_lconst (hd := (by decide +kernel : decode cX11_life 12 = .ok (.lconst 0, 1))) (hv := by decide)) (
   sndC (sd_lconst (hd := (by decide +kernel : decode cX11_life 13 = .ok (.lconst 1, 1))) (hv := by decide)) (
   sndC (sd_if_ne (ht := by decide) (hd := (by decide +kernel : decode cX11_life 17 = .ok (.ifCond .ne 7, 3)))) (
   sndC (sd_ldcw (hw := w_1409) (hd := (by decide +kernel : decode cX11_life 20 = .ok (.ldc_w 377, 3)))) (
   sndC (sd_aload_n (hi := rfl) (hd := (by decide +kernel : decode cX11_life 24 = .ok (.aload_n 0, 1)))) (
   sndC (sd_aload_n (hi := rfl) (hd := (by decide +kernel : decode cX11_life 28 = .ok (.aload_n 0, 1)))) (
   sndC (sd_iload_n (hi := rfl) (hd := (by decide +kernel : decode cX11_life 29 = .ok (.iload_n 1, 1)))) (
   sndC (sd_if_ne (ht := by decide) (hd := (by decide +kernel : decode cX11_life 30 = .ok (.ifCond .ne 7, 3)))) (
   sndC (sd_iconst (hd := (by decide +kernel : decode cX11_life 33 = .ok (.iconst 0, 1))) (hv := by decide)) (
   sndC (sd_goto (ht := by decide) (hd := (by decide +kernel : decode cX11_life 34 = .ok (.goto 4, 3)))) (
   sndC (sd_iconst (hd := (by decide +kernel : decode cX11_life 37 = .ok (.iconst 2, 1))) (hv := by decide)) (
   sndC (sd_aload_n (hi := rfl) (hd := (by decide +kernel : decode cX11_life 41 = .ok (.aload_n 0, 1)))) (
   sndC (sd_istore_n (hi := rfl) (hd := (by decide +kernel : decode cX11_life 45 = .ok (.istore_n 3, 1)))) (
   sndC (sd_iconst (hd := (by decide +kernel : decode cX11_life 46 = .ok (.iconst (-1), 1))) (hv := by decide)) (
   sndC (sd_istore (hd := (by decide +kernel : decode cX11_life 47 = .ok (.istore 4, 2)))) (
   sndC (sd_iconst (hd := (by decide +kernel : decode cX11_life 49 = .ok (.iconst 0, 1))) (hv := by decide)) (
   sndC (sd_istore (hd := (by decide +kernel : decode cX11_life 50 = .ok (.istore 5, 2)))) (
   sndC (sd_iconst (hd := (by decide +kernel : decode cX11_life 52 = .ok (.iconst 0, 1))) (hv := by decide)) (
   sndC (sd_istore (hd := (by decide +kernel : decode cX11_life 53 = .ok (.istore 6, 2)))) (
   sndC (sd_iload (hd := (by decide +kernel : decode cX11_life 55 = .ok (.iload 6, 2)))) (
   sndC (sd_sipush (hd := (by decide +kernel : decode cX11_life 57 = .ok (.sipush 4096, 3))) (hv := by decide)) (
   sndC (sd_cmp_ge (ht := by decide) (hd := (by decide +kernel : decode cX11_life 60 = .ok (.if_icmp .ge 65, 3)))) (
   sndC (sd_iload_n (hi := rfl) (hd := (by decide +kernel : decode cX11_life 63 = .ok (.iload_n 1, 1)))) (
   sndC (sd_if_ne (ht := by decide) (hd := (by decide +kernel : decode cX11_life 64 = .ok (.ifCond .ne 13, 3)))) (
   sndC (sd_aload_n (hi := rfl) (hd := (by decide +kernel : decode cX11_life 67 = .ok (.aload_n 0, 1)))) (
   sndC (sd_iload (hd := (by decide +kernel : decode cX11_life 68 = .ok (.iload 6, 2)))) (
   sndC (sd_ineg (hd := (by decide +kernel : decode cX11_life 73 = .ok (.ineg, 1)))) (
   sndC (sd_goto (ht := by decide) (hd := (by decide +kernel : decode cX11_life 74 = .ok (.goto 9, 3)))) (
   sndC (sd_aload_n (hi := rfl) (hd := (by decide +kernel : decode cX11_life 77 = .ok (.aload_n 0, 1)))) (
   sndC (sd_iload (hd := (by decide +kernel : decode cX11_life 78 = .ok (.iload 6, 2)))) (
   sndC (sd_istore (hd := (by decide +kernel : decode cX11_life 83 = .ok (.istore 7, 2)))) (
   sndC (sd_aload_n (hi := rfl) (hd := (by decide +kernel : decode cX11_life 85 = .ok (.aload_n 0, 1)))) (
   sndC (sd_get (C := RX11) (T := TX11) (N := 41) (hc := rfl) (hin0 := iX11) (hk := by decide) (hlink := w_1042) (hd := (by decide +kernel : decode cX11_life 86 = .ok (.getfield 38, 3)))) (
   sndC (sd_iload (hd := (by decide +kernel : decode cX11_life 89 = .ok (.iload 6, 2)))) (
   sndC (sd_iald (hd := (by decide +kernel : decode cX11_life 91 = .ok (.iaload, 1)))) (
   sndC (sd_iload_n (hi := rfl) (hd := (by decide +kernel : decode cX11_life 92 = .ok (.iload_n 3, 1)))) (
   sndC (sd_iand (hd := (by decide +kernel : decode cX11_life 93 = .ok (.iand, 1)))) (
   sndC (sd_iload_n (hi := rfl) (hd := (by decide +kernel : decode cX11_life 94 = .ok (.iload_n 3, 1)))) (
   sndC (sd_cmp_ne (ht := by decide) (hd := (by decide +kernel : decode cX11_life 95 = .ok (.if_icmp .ne 24, 3)))) (
   sndC (sd_iload (hd := (by decide +kernel : decode cX11_life 98 = .ok (.iload 4, 2)))) (
   sndC (sd_iconst (hd := (by decide +kernel : decode cX11_life 100 = .ok (.iconst (-1), 1))) (hv := by decide)) (
   sndC (sd_cmp_eq (ht := by decide) (hd := (by decide +kernel : decode cX11_life 101 = .ok (.if_icmp .eq 10, 3)))) (
   sndC (sd_iload (hd := (by decide +kernel : decode cX11_life 104 = .ok (.iload 7, 2)))) (
   sndC (sd_iload (hd := (by decide +kernel : decode cX11_life 106 = .ok (.iload 5, 2)))) (
   sndC (sd_cmp_le (ht := by decide) (hd := (by decide +kernel : decode cX11_life 108 = .ok (.if_icmp .le 11, 3)))) (
   sndC (sd_iload (hd := (by decide +kernel : decode cX11_life 111 = .ok (.iload 6, 2)))) (
   sndC (sd_istore (hd := (by decide +kernel : decode cX11_life 113 = .ok (.istore 4, 2)))) (
   sndC (sd_iload (hd := (by decide +kernel : decode cX11_life 115 = .ok (.iload 7, 2)))) (
   sndC (sd_istore (hd := (by decide +kernel : decode cX11_life 117 = .ok (.istore 5, 2)))) (
   sndC (sd_iinc (hv := by decide) (hd := (by decide +kernel : decode cX11_life 119 = .ok (.iinc 6 1, 3)))) (
   sndC (sd_goto (ht := by decide) (hd := (by decide +kernel : decode cX11_life 122 = .ok (.goto (-67), 3)))) (
   sndC (sd_iload_n (hi := rfl) (hd := (by decide +kernel : decode cX11_life 125 = .ok (.iload_n 2, 1)))) (
   sndC (sd_if_ne (ht := by decide) (hd := (by decide +kernel : decode cX11_life 126 = .ok (.ifCond .ne 11, 3)))) (
   sndC (sd_iload (hd := (by decide +kernel : decode cX11_life 129 = .ok (.iload 4, 2)))) (
   sndC (sd_goto (ht := by decide) (hd := (by decide +kernel : decode cX11_life 134 = .ok (.goto 15, 3)))) (
   sndC (sd_iload_n (hi := rfl) (hd := (by decide +kernel : decode cX11_life 137 = .ok (.iload_n 1, 1)))) (
   sndC (sd_if_ne (ht := by decide) (hd := (by decide +kernel : decode cX11_life 138 = .ok (.ifCond .ne 9, 3)))) (
   sndC (sd_iload (hd := (by decide +kernel : decode cX11_life 141 = .ok (.iload 5, 2)))) (
   sndC (sd_ineg (hd := (by decide +kernel : decode cX11_life 143 = .ok (.ineg, 1)))) (
   sndC (sd_goto (ht := by decide) (hd := (by decide +kernel : decode cX11_life 144 = .ok (.goto 5, 3)))) (
   sndC (sd_iload (hd := (by decide +kernel : decode cX11_life 147 = .ok (.iload 5, 2)))) (
   sndN))))))))))))))))))))))))))))))))))))))))))))))))))))))))))))))))))))⟩
theorem kX11_life_4 : CallAt mX11_life 4 1 mX11_in 3 := ⟨by decide +kernel, ⟨_, (by decide +kernel : decode cX11_life 4 = .ok (.invokestatic 82, 3)), w_1144, w_1145⟩⟩
theorem kX11_life_14 : CallAt mX11_life 14 1 mX11_in 3 := ⟨by decide +kernel, ⟨_, (by decide +kernel : decode cX11_life 14 = .ok (.invokestatic 82, 3)), w_1144, w_1145⟩⟩
theorem kX11_life_25 : CallAt mX11_life 25 0 mX11_gathers 0 := ⟨by decide +kernel, ⟨_, (by decide +kernel : decode cX11_life 25 = .ok (.invokevirtual 378, 3)), w_1410, w_1412, w_100⟩⟩
theorem kX11_life_38 : CallAt mX11_life 38 0 mX11_tellsValues 1 := ⟨by decide +kernel, ⟨_, (by decide +kernel : decode cX11_life 38 = .ok (.invokevirtual 387, 3)), w_1451, w_1453, w_108⟩⟩
theorem kX11_life_42 : CallAt mX11_life 42 0 mX11_sentSet 0 := ⟨by decide +kernel, ⟨_, (by decide +kernel : decode cX11_life 42 = .ok (.invokevirtual 371, 3)), w_1435, w_1437, w_104⟩⟩
theorem kX11_life_70 : CallAt mX11_life 70 0 mX11_valueOf 1 := ⟨by decide +kernel, ⟨_, (by decide +kernel : decode cX11_life 70 = .ok (.invokevirtual 391, 3)), w_1455, w_1457, w_109⟩⟩
theorem kX11_life_80 : CallAt mX11_life 80 0 mX11_valueOf 1 := ⟨by decide +kernel, ⟨_, (by decide +kernel : decode cX11_life 80 = .ok (.invokevirtual 391, 3)), w_1455, w_1457, w_109⟩⟩
theorem kX11_life_131 : CallAt mX11_life 131 1 mX11_digits 1 := ⟨by decide +kernel, ⟨_, (by decide +kernel : decode cX11_life 131 = .ok (.invokestatic 397, 3)), w_1471, w_1472⟩⟩

set_option maxRecDepth 20000 in
theorem GX11_next : Good mX11_next := ⟨by decide +kernel, List.mem_of_getElem? (i := 1481) (by decide +kernel), inX11, ⟨by decide +kernel, by decide +kernel⟩, by decide, show ∀ q ∈ tX11_next, Snd mX11_next q.1 q.2 from
  sndC (sd_iload_n (hi := rfl) (hd := (by decide +kernel : decode cX11_next 0 = .ok (.iload_n 1, 1)))) (
   sndC (sd_i2l (hd := (by decide +kernel : decode cX11_next 1 = .ok (.i2l, 1)))) (
   sndC (sd_lconst (hd := (by decide +kernel : decode cX11_next 2 = .ok (.lconst 0, 1))) (hv := by decide)) (
   sndC (sd_lconst (hd := (by decide +kernel : decode cX11_next 3 = .ok (.lconst 1, 1))) (hv := by decide)) (
   sndC (sd_if_ne (ht := by decide) (hd := (by decide +kernel : decode cX11_next 7 = .ok (.ifCond .ne 6, 3)))) (
   sndC (sd_bipush (hd := (by decide +kernel : decode cX11_next 10 = .ok (.bipush (-2), 2))) (hv := by decide)) (
   sndC (sd_aload_n (hi := rfl) (hd := (by decide +kernel : decode cX11_next 13 = .ok (.aload_n 0, 1)))) (
   sndC (sd_aload_n (hi := rfl) (hd := (by decide +kernel : decode cX11_next 17 = .ok (.aload_n 0, 1)))) (
   sndC (sd_istore_n (hi := rfl) (hd := (by decide +kernel : decode cX11_next 21 = .ok (.istore_n 2, 1)))) (
   sndC (sd_iconst (hd := (by decide +kernel : decode cX11_next 22 = .ok (.iconst (-1), 1))) (hv := by decide)) (
   sndC (sd_istore_n (hi := rfl) (hd := (by decide +kernel : decode cX11_next 23 = .ok (.istore_n 3, 1)))) (
   sndC (sd_aload_n (hi := rfl) (hd := (by decide +kernel : decode cX11_next 24 = .ok (.aload_n 0, 1)))) (
   sndC (sd_iload_n (hi := rfl) (hd := (by decide +kernel : decode cX11_next 25 = .ok (.iload_n 2, 1)))) (
   sndC (sd_istore (hd := (by decide +kernel : decode cX11_next 29 = .ok (.istore 4, 2)))) (
   sndC (sd_iconst (hd := (by decide +kernel : decode cX11_next 31 = .ok (.iconst 0, 1))) (hv := by decide)) (
   sndC (sd_istore (hd := (by decide +kernel : decode cX11_next 32 = .ok (.istore 5, 2)))) (
   sndC (sd_iload (hd := (by decide +kernel : decode cX11_next 34 = .ok (.iload 5, 2)))) (
   sndC (sd_aload_n (hi := rfl) (hd := (by decide +kernel : decode cX11_next 36 = .ok (.aload_n 0, 1)))) (
   sndC (sd_get (C := RX11) (T := TX11) (N := 41) (hc := rfl) (hin0 := iX11) (hk := by decide) (hlink := w_1025) (hd := (by decide +kernel : decode cX11_next 37 = .ok (.getfield 79, 3)))) (
   sndC (sd_cmp_ge (ht := by decide) (hd := (by decide +kernel : decode cX11_next 40 = .ok (.if_icmp .ge 49, 3)))) (
   sndC (sd_iload_n (hi := rfl) (hd := (by decide +kernel : decode cX11_next 43 = .ok (.iload_n 2, 1)))) (
   sndC (sd_iload (hd := (by decide +kernel : decode cX11_next 44 = .ok (.iload 5, 2)))) (
   sndC (sd_ishr (hd := (by decide +kernel : decode cX11_next 46 = .ok (.ishr, 1)))) (
   sndC (sd_iconst (hd := (by decide +kernel : decode cX11_next 47 = .ok (.iconst 1, 1))) (hv := by decide)) (
   sndC (sd_iand (hd := (by decide +kernel : decode cX11_next 48 = .ok (.iand, 1)))) (
   sndC (sd_if_ne (ht := by decide) (hd := (by decide +kernel : decode cX11_next 49 = .ok (.ifCond .ne 34, 3)))) (
   sndC (sd_aload_n (hi := rfl) (hd := (by decide +kernel : decode cX11_next 52 = .ok (.aload_n 0, 1)))) (
   sndC (sd_iload_n (hi := rfl) (hd := (by decide +kernel : decode cX11_next 53 = .ok (.iload_n 2, 1)))) (
   sndC (sd_iconst (hd := (by decide +kernel : decode cX11_next 54 = .ok (.iconst 1, 1))) (hv := by decide)) (
   sndC (sd_iload (hd := (by decide +kernel : decode cX11_next 55 = .ok (.iload 5, 2)))) (
   sndC (sd_ishl (hd := (by decide +kernel : decode cX11_next 57 = .ok (.ishl, 1)))) (
   sndC (sd_ior (hd := (by decide +kernel : decode cX11_next 58 = .ok (.ior, 1)))) (
   sndC (sd_istore (hd := (by decide +kernel : decode cX11_next 62 = .ok (.istore 6, 2)))) (
   sndC (sd_iload_n (hi := rfl) (hd := (by decide +kernel : decode cX11_next 64 = .ok (.iload_n 3, 1)))) (
   sndC (sd_iconst (hd := (by decide +kernel : decode cX11_next 65 = .ok (.iconst (-1), 1))) (hv := by decide)) (
   sndC (sd_cmp_eq (ht := by decide) (hd := (by decide +kernel : decode cX11_next 66 = .ok (.if_icmp .eq 10, 3)))) (
   sndC (sd_iload (hd := (by decide +kernel : decode cX11_next 69 = .ok (.iload 6, 2)))) (
   sndC (sd_iload (hd := (by decide +kernel : decode cX11_next 71 = .ok (.iload 4, 2)))) (
   sndC (sd_cmp_ge (ht := by decide) (hd := (by decide +kernel : decode cX11_next 73 = .ok (.if_icmp .ge 10, 3)))) (
   sndC (sd_iload (hd := (by decide +kernel : decode cX11_next 76 = .ok (.iload 5, 2)))) (
   sndC (sd_istore_n (hi := rfl) (hd := (by decide +kernel : decode cX11_next 78 = .ok (.istore_n 3, 1)))) (
   sndC (sd_iload (hd := (by decide +kernel : decode cX11_next 79 = .ok (.iload 6, 2)))) (
   sndC (sd_istore (hd := (by decide +kernel : decode cX11_next 81 = .ok (.istore 4, 2)))) (
   sndC (sd_iinc (hv := by decide) (hd := (by decide +kernel : decode cX11_next 83 = .ok (.iinc 5 1, 3)))) (
   sndC (sd_goto (ht := by decide) (hd := (by decide +kernel : decode cX11_next 86 = .ok (.goto (-52), 3)))) (
   sndC (sd_iload_n (hi := rfl) (hd := (by decide +kernel : decode cX11_next 89 = .ok (.iload_n 1, 1)))) (
   sndC (sd_if_ne (ht := by decide) (hd := (by decide +kernel : decode cX11_next 90 = .ok (.ifCond .ne 7, 3)))) (
   sndC (sd_iload_n (hi := rfl) (hd := (by decide +kernel : decode cX11_next 93 = .ok (.iload_n 3, 1)))) (
   sndC (sd_goto (ht := by decide) (hd := (by decide +kernel : decode cX11_next 94 = .ok (.goto 5, 3)))) (
   sndC (sd_iload (hd := (by decide +kernel : decode cX11_next 97 = .ok (.iload 4, 2)))) (
   sndN))))))))))))))))))))))))))))))))))))))))))))))))))⟩
theorem kX11_next_4 : CallAt mX11_next 4 1 mX11_in 3 := ⟨by decide +kernel, ⟨_, (by decide +kernel : decode cX11_next 4 = .ok (.invokestatic 82, 3)), w_1144, w_1145⟩⟩
theorem kX11_next_14 : CallAt mX11_next 14 0 mX11_gathers 0 := ⟨by decide +kernel, ⟨_, (by decide +kernel : decode cX11_next 14 = .ok (.invokevirtual 378, 3)), w_1410, w_1412, w_100⟩⟩
theorem kX11_next_18 : CallAt mX11_next 18 0 mX11_sentSet 0 := ⟨by decide +kernel, ⟨_, (by decide +kernel : decode cX11_next 18 = .ok (.invokevirtual 371, 3)), w_1435, w_1437, w_104⟩⟩
theorem kX11_next_26 : CallAt mX11_next 26 0 mX11_livesBy 1 := ⟨by decide +kernel, ⟨_, (by decide +kernel : decode cX11_next 26 = .ok (.invokevirtual 381, 3)), w_1439, w_1441, w_105⟩⟩
theorem kX11_next_59 : CallAt mX11_next 59 0 mX11_livesBy 1 := ⟨by decide +kernel, ⟨_, (by decide +kernel : decode cX11_next 59 = .ok (.invokevirtual 381, 3)), w_1439, w_1441, w_105⟩⟩

set_option maxRecDepth 20000 in
theorem GX11_sinks : Good mX11_sinks := ⟨by decide +kernel, List.mem_of_getElem? (i := 1497) (by decide +kernel), inX11, ⟨by decide +kernel, by decide +kernel⟩, by decide, show ∀ q ∈ tX11_sinks, Snd mX11_sinks q.1 q.2 from
  sndC (sd_iload_n (hi := rfl) (hd := (by decide +kernel : decode cX11_sinks 0 = .ok (.iload_n 1, 1)))) (
   sndC (sd_istore_n (hi := rfl) (hd := (by decide +kernel : decode cX11_sinks 1 = .ok (.istore_n 3, 1)))) (
   sndC (sd_iconst (hd := (by decide +kernel : decode cX11_sinks 2 = .ok (.iconst 2, 1))) (hv := by decide)) (
   sndC (sd_iload_n (hi := rfl) (hd := (by decide +kernel : decode cX11_sinks 3 = .ok (.iload_n 3, 1)))) (
   sndC (sd_imul (hd := (by decide +kernel : decode cX11_sinks 4 = .ok (.imul, 1)))) (
   sndC (sd_iconst (hd := (by decide +kernel : decode cX11_sinks 5 = .ok (.iconst 1, 1))) (hv := by decide)) (
   sndC (sd_iadd (hd := (by decide +kernel : decode cX11_sinks 6 = .ok (.iadd, 1)))) (
   sndC (sd_iload_n (hi := rfl) (hd := (by decide +kernel : decode cX11_sinks 7 = .ok (.iload_n 2, 1)))) (
   sndC (sd_cmp_ge (ht := by decide) (hd := (by decide +kernel : decode cX11_sinks 8 = .ok (.if_icmp .ge 93, 3)))) (
   sndC (sd_iconst (hd := (by decide +kernel : decode cX11_sinks 11 = .ok (.iconst 2, 1))) (hv := by decide)) (
   sndC (sd_iload_n (hi := rfl) (hd := (by decide +kernel : decode cX11_sinks 12 = .ok (.iload_n 3, 1)))) (
   sndC (sd_imul (hd := (by decide +kernel : decode cX11_sinks 13 = .ok (.imul, 1)))) (
   sndC (sd_iconst (hd := (by decide +kernel : decode cX11_sinks 14 = .ok (.iconst 1, 1))) (hv := by decide)) (
   sndC (sd_iadd (hd := (by decide +kernel : decode cX11_sinks 15 = .ok (.iadd, 1)))) (
   sndC (sd_istore (hd := (by decide +kernel : decode cX11_sinks 16 = .ok (.istore 4, 2)))) (
   sndC (sd_iload (hd := (by decide +kernel : decode cX11_sinks 18 = .ok (.iload 4, 2)))) (
   sndC (sd_iconst (hd := (by decide +kernel : decode cX11_sinks 20 = .ok (.iconst 1, 1))) (hv := by decide)) (
   sndC (sd_iadd (hd := (by decide +kernel : decode cX11_sinks 21 = .ok (.iadd, 1)))) (
   sndC (sd_iload_n (hi := rfl) (hd := (by decide +kernel : decode cX11_sinks 22 = .ok (.iload_n 2, 1)))) (
   sndC (sd_cmp_ge (ht := by decide) (hd := (by decide +kernel : decode cX11_sinks 23 = .ok (.if_icmp .ge 25, 3)))) (
   sndC (sd_aload_n (hi := rfl) (hd := (by decide +kernel : decode cX11_sinks 26 = .ok (.aload_n 0, 1)))) (
   sndC (sd_get (C := RX11) (T := TX11) (N := 41) (hc := rfl) (hin0 := iX11) (hk := by decide) (hlink := w_1044) (hd := (by decide +kernel : decode cX11_sinks 27 = .ok (.getfield 44, 3)))) (
   sndC (sd_iload (hd := (by decide +kernel : decode cX11_sinks 30 = .ok (.iload 4, 2)))) (
   sndC (sd_iconst (hd := (by decide +kernel : decode cX11_sinks 32 = .ok (.iconst 1, 1))) (hv := by decide)) (
   sndC (sd_iadd (hd := (by decide +kernel : decode cX11_sinks 33 = .ok (.iadd, 1)))) (
   sndC (sd_iald (hd := (by decide +kernel : decode cX11_sinks 34 = .ok (.iaload, 1)))) (
   sndC (sd_aload_n (hi := rfl) (hd := (by decide +kernel : decode cX11_sinks 35 = .ok (.aload_n 0, 1)))) (
   sndC (sd_get (C := RX11) (T := TX11) (N := 41) (hc := rfl) (hin0 := iX11) (hk := by decide) (hlink := w_1044) (hd := (by decide +kernel : decode cX11_sinks 36 = .ok (.getfield 44, 3)))) (
   sndC (sd_iload (hd := (by decide +kernel : decode cX11_sinks 39 = .ok (.iload 4, 2)))) (
   sndC (sd_iald (hd := (by decide +kernel : decode cX11_sinks 41 = .ok (.iaload, 1)))) (
   sndC (sd_cmp_le (ht := by decide) (hd := (by decide +kernel : decode cX11_sinks 42 = .ok (.if_icmp .le 6, 3)))) (
   sndC (sd_iinc (hv := by decide) (hd := (by decide +kernel : decode cX11_sinks 45 = .ok (.iinc 4 1, 3)))) (
   sndC (sd_aload_n (hi := rfl) (hd := (by decide +kernel : decode cX11_sinks 48 = .ok (.aload_n 0, 1)))) (
   sndC (sd_get (C := RX11) (T := TX11) (N := 41) (hc := rfl) (hin0 := iX11) (hk := by decide) (hlink := w_1044) (hd := (by decide +kernel : decode cX11_sinks 49 = .ok (.getfield 44, 3)))) (
   sndC (sd_iload (hd := (by decide +kernel : decode cX11_sinks 52 = .ok (.iload 4, 2)))) (
   sndC (sd_iald (hd := (by decide +kernel : decode cX11_sinks 54 = .ok (.iaload, 1)))) (
   sndC (sd_aload_n (hi := rfl) (hd := (by decide +kernel : decode cX11_sinks 55 = .ok (.aload_n 0, 1)))) (
   sndC (sd_get (C := RX11) (T := TX11) (N := 41) (hc := rfl) (hin0 := iX11) (hk := by decide) (hlink := w_1044) (hd := (by decide +kernel : decode cX11_sinks 56 = .ok (.getfield 44, 3)))) (
   sndC (sd_iload_n (hi := rfl) (hd := (by decide +kernel : decode cX11_sinks 59 = .ok (.iload_n 3, 1)))) (
   sndC (sd_iald (hd := (by decide +kernel : decode cX11_sinks 60 = .ok (.iaload, 1)))) (
   sndC (sd_cmp_gt (ht := by decide) (hd := (by decide +kernel : decode cX11_sinks 61 = .ok (.if_icmp .gt 4, 3)))) (
   sndC (sd_aload_n (hi := rfl) (hd := (by decide +kernel : decode cX11_sinks 65 = .ok (.aload_n 0, 1)))) (
   sndC (sd_get (C := RX11) (T := TX11) (N := 41) (hc := rfl) (hin0 := iX11) (hk := by decide) (hlink := w_1044) (hd := (by decide +kernel : decode cX11_sinks 66 = .ok (.getfield 44, 3)))) (
   sndC (sd_iload (hd := (by decide +kernel : decode cX11_sinks 69 = .ok (.iload 4, 2)))) (
   sndC (sd_iald (hd := (by decide +kernel : decode cX11_sinks 71 = .ok (.iaload, 1)))) (
   sndC (sd_istore (hd := (by decide +kernel : decode cX11_sinks 72 = .ok (.istore 5, 2)))) (
   sndC (sd_aload_n (hi := rfl) (hd := (by decide +kernel : decode cX11_sinks 74 = .ok (.aload_n 0, 1)))) (
   sndC (sd_get (C := RX11) (T := TX11) (N := 41) (hc := rfl) (hin0 := iX11) (hk := by decide) (hlink := w_1044) (hd := (by decide +kernel : decode cX11_sinks 75 = .ok (.getfield 44, 3)))) (
   sndC (sd_iload (hd := (by decide +kernel : decode cX11_sinks 78 = .ok (.iload 4, 2)))) (
   sndC (sd_aload_n (hi := rfl) (hd := (by decide +kernel : decode cX11_sinks 80 = .ok (.aload_n 0, 1)))) (
   sndC (sd_get (C := RX11) (T := TX11) (N := 41) (hc := rfl) (hin0 := iX11) (hk := by decide) (hlink := w_1044) (hd := (by decide +kernel : decode cX11_sinks 81 = .ok (.getfield 44, 3)))) (
   sndC (sd_iload_n (hi := rfl) (hd := (by decide +kernel : decode cX11_sinks 84 = .ok (.iload_n 3, 1)))) (
   sndC (sd_iald (hd := (by decide +kernel : decode cX11_sinks 85 = .ok (.iaload, 1)))) (
   sndC (sd_iast (hd := (by decide +kernel : decode cX11_sinks 86 = .ok (.iastore, 1)))) (
   sndC (sd_aload_n (hi := rfl) (hd := (by decide +kernel : decode cX11_sinks 87 = .ok (.aload_n 0, 1)))) (
   sndC (sd_get (C := RX11) (T := TX11) (N := 41) (hc := rfl) (hin0 := iX11) (hk := by decide) (hlink := w_1044) (hd := (by decide +kernel : decode cX11_sinks 88 = .ok (.getfield 44, 3)))) (
   sndC (sd_iload_n (hi := rfl) (hd := (by decide +kernel : decode cX11_sinks 91 = .ok (.iload_n 3, 1)))) (
   sndC (sd_iload (hd := (by decide +kernel : decode cX11_sinks 92 = .ok (.iload 5, 2)))) (
   sndC (sd_iast (hd := (by decide +kernel : decode cX11_sinks 94 = .ok (.iastore, 1)))) (
   sndC (sd_iload (hd := (by decide +kernel : decode cX11_sinks 95 = .ok (.iload 4, 2)))) (
   sndC (sd_istore_n (hi := rfl) (hd := (by decide +kernel : decode cX11_sinks 97 = .ok (.istore_n 3, 1)))) (
   sndC (sd_goto (ht := by decide) (hd := (by decide +kernel : decode cX11_sinks 98 = .ok (.goto (-96), 3)))) (
   sndN))))))))))))))))))))))))))))))))))))))))))))))))))))))))))))))⟩


set_option maxRecDepth 20000 in
theorem GX11_sorts1 : Good mX11_sorts1 := ⟨by decide +kernel, List.mem_of_getElem? (i := 1493) (by decide +kernel), inX11, ⟨by decide +kernel, by decide +kernel⟩, by decide, show ∀ q ∈ tX11_sorts1, Snd mX11_sorts1 q.1 q.2 from
  sndC (sd_iload_n (hi := rfl) (hd := (by decide +kernel : decode cX11_sorts1 0 = .ok (.iload_n 1, 1)))) (
   sndC (sd_iconst (hd := (by decide +kernel : decode cX11_sorts1 1 = .ok (.iconst 2, 1))) (hv := by decide)) (
   sndC (sd_idiv (hd := (by decide +kernel : decode cX11_sorts1 2 = .ok (.idiv, 1)))) (
   sndC (sd_iconst (hd := (by decide +kernel : decode cX11_sorts1 3 = .ok (.iconst 1, 1))) (hv := by decide)) (
   sndC (sd_isub (hd := (by decide +kernel : decode cX11_sorts1 4 = .ok (.isub, 1)))) (
   sndC (sd_istore_n (hi := rfl) (hd := (by decide +kernel : decode cX11_sorts1 5 = .ok (.istore_n 2, 1)))) (
   sndC (sd_iload_n (hi := rfl) (hd := (by decide +kernel : decode cX11_sorts1 6 = .ok (.iload_n 2, 1)))) (
   sndC (sd_if_lt (ht := by decide) (hd := (by decide +kernel : decode cX11_sorts1 7 = .ok (.ifCond .lt 15, 3)))) (
   sndC (sd_aload_n (hi := rfl) (hd := (by decide +kernel : decode cX11_sorts1 10 = .ok (.aload_n 0, 1)))) (
   sndC (sd_iload_n (hi := rfl) (hd := (by decide +kernel : decode cX11_sorts1 11 = .ok (.iload_n 2, 1)))) (
   sndC (sd_iload_n (hi := rfl) (hd := (by decide +kernel : decode cX11_sorts1 12 = .ok (.iload_n 1, 1)))) (
   sndC (sd_iinc (hv := by decide) (hd := (by decide +kernel : decode cX11_sorts1 16 = .ok (.iinc 2 (-1), 3)))) (
   sndC (sd_goto (ht := by decide) (hd := (by decide +kernel : decode cX11_sorts1 19 = .ok (.goto (-13), 3)))) (
   sndC (sd_iload_n (hi := rfl) (hd := (by decide +kernel : decode cX11_sorts1 22 = .ok (.iload_n 1, 1)))) (
   sndC (sd_iconst (hd := (by decide +kernel : decode cX11_sorts1 23 = .ok (.iconst 1, 1))) (hv := by decide)) (
   sndC (sd_isub (hd := (by decide +kernel : decode cX11_sorts1 24 = .ok (.isub, 1)))) (
   sndC (sd_istore_n (hi := rfl) (hd := (by decide +kernel : decode cX11_sorts1 25 = .ok (.istore_n 2, 1)))) (
   sndC (sd_iload_n (hi := rfl) (hd := (by decide +kernel : decode cX11_sorts1 26 = .ok (.iload_n 2, 1)))) (
   sndC (sd_if_le (ht := by decide) (hd := (by decide +kernel : decode cX11_sorts1 27 = .ok (.ifCond .le 41, 3)))) (
   sndC (sd_aload_n (hi := rfl) (hd := (by decide +kernel : decode cX11_sorts1 30 = .ok (.aload_n 0, 1)))) (
   sndC (sd_get (C := RX11) (T := TX11) (N := 41) (hc := rfl) (hin0 := iX11) (hk := by decide) (hlink := w_1044) (hd := (by decide +kernel : decode cX11_sorts1 31 = .ok (.getfield 44, 3)))) (
   sndC (sd_iconst (hd := (by decide +kernel : decode cX11_sorts1 34 = .ok (.iconst 0, 1))) (hv := by decide)) (
   sndC (sd_iald (hd := (by decide +kernel : decode cX11_sorts1 35 = .ok (.iaload, 1)))) (
   sndC (sd_istore_n (hi := rfl) (hd := (by decide +kernel : decode cX11_sorts1 36 = .ok (.istore_n 3, 1)))) (
   sndC (sd_aload_n (hi := rfl) (hd := (by decide +kernel : decode cX11_sorts1 37 = .ok (.aload_n 0, 1)))) (
   sndC (sd_get (C := RX11) (T := TX11) (N := 41) (hc := rfl) (hin0 := iX11) (hk := by decide) (hlink := w_1044) (hd := (by decide +kernel : decode cX11_sorts1 38 = .ok (.getfield 44, 3)))) (
   sndC (sd_iconst (hd := (by decide +kernel : decode cX11_sorts1 41 = .ok (.iconst 0, 1))) (hv := by decide)) (
   sndC (sd_aload_n (hi := rfl) (hd := (by decide +kernel : decode cX11_sorts1 42 = .ok (.aload_n 0, 1)))) (
   sndC (sd_get (C := RX11) (T := TX11) (N := 41) (hc := rfl) (hin0 := iX11) (hk := by decide) (hlink := w_1044) (hd := (by decide +kernel : decode cX11_sorts1 43 = .ok (.getfield 44, 3)))) (
   sndC (sd_iload_n (hi := rfl) (hd := (by decide +kernel : decode cX11_sorts1 46 = .ok (.iload_n 2, 1)))) (
   sndC (sd_iald (hd := (by decide +kernel : decode cX11_sorts1 47 = .ok (.iaload, 1)))) (
   sndC (sd_iast (hd := (by decide +kernel : decode cX11_sorts1 48 = .ok (.iastore, 1)))) (
   sndC (sd_aload_n (hi := rfl) (hd := (by decide +kernel : decode cX11_sorts1 49 = .ok (.aload_n 0, 1)))) (
   sndC (sd_get (C := RX11) (T := TX11) (N := 41) (hc := rfl) (hin0 := iX11) (hk := by decide) (hlink := w_1044) (hd := (by decide +kernel : decode cX11_sorts1 50 = .ok (.getfield 44, 3)))) (
   sndC (sd_iload_n (hi := rfl) (hd := (by decide +kernel : decode cX11_sorts1 53 = .ok (.iload_n 2, 1)))) (
   sndC (sd_iload_n (hi := rfl) (hd := (by decide +kernel : decode cX11_sorts1 54 = .ok (.iload_n 3, 1)))) (
   sndC (sd_iast (hd := (by decide +kernel : decode cX11_sorts1 55 = .ok (.iastore, 1)))) (
   sndC (sd_aload_n (hi := rfl) (hd := (by decide +kernel : decode cX11_sorts1 56 = .ok (.aload_n 0, 1)))) (
   sndC (sd_iconst (hd := (by decide +kernel : decode cX11_sorts1 57 = .ok (.iconst 0, 1))) (hv := by decide)) (
   sndC (sd_iload_n (hi := rfl) (hd := (by decide +kernel : decode cX11_sorts1 58 = .ok (.iload_n 2, 1)))) (
   sndC (sd_iinc (hv := by decide) (hd := (by decide +kernel : decode cX11_sorts1 62 = .ok (.iinc 2 (-1), 3)))) (
   sndC (sd_goto (ht := by decide) (hd := (by decide +kernel : decode cX11_sorts1 65 = .ok (.goto (-39), 3)))) (
   sndN))))))))))))))))))))))))))))))))))))))))))⟩
theorem kX11_sorts1_13 : CallAt mX11_sorts1 13 0 mX11_sinks 2 := ⟨by decide +kernel, ⟨_, (by decide +kernel : decode cX11_sorts1 13 = .ok (.invokevirtual 400, 3)), w_1494, w_1496, w_113⟩⟩
theorem kX11_sorts1_59 : CallAt mX11_sorts1 59 0 mX11_sinks 2 := ⟨by decide +kernel, ⟨_, (by decide +kernel : decode cX11_sorts1 59 = .ok (.invokevirtual 400, 3)), w_1494, w_1496, w_113⟩⟩

set_option maxRecDepth 20000 in
theorem GX11_worstBy : Good mX11_worstBy := ⟨by decide +kernel, List.mem_of_getElem? (i := 1489) (by decide +kernel), inX11, ⟨by decide +kernel, by decide +kernel⟩, by decide, show ∀ q ∈ tX11_worstBy, Snd mX11_worstBy q.1 q.2 from
  sndC (sd_iconst (hd := (by decide +kernel : decode cX11_worstBy 0 = .ok (.iconst 0, 1))) (hv := by decide)) (
   sndC (sd_istore_n (hi := rfl) (hd := (by decide +kernel : decode cX11_worstBy 1 = .ok (.istore_n 3, 1)))) (
   sndC (sd_iconst (hd := (by decide +kernel : decode cX11_worstBy 2 = .ok (.iconst 0, 1))) (hv := by decide)) (
   sndC (sd_istore (hd := (by decide +kernel : decode cX11_worstBy 3 = .ok (.istore 4, 2)))) (
   sndC (sd_iload (hd := (by decide +kernel : decode cX11_worstBy 5 = .ok (.iload 4, 2)))) (
   sndC (sd_sipush (hd := (by decide +kernel : decode cX11_worstBy 7 = .ok (.sipush 4096, 3))) (hv := by decide)) (
   sndC (sd_cmp_ge (ht := by decide) (hd := (by decide +kernel : decode cX11_worstBy 10 = .ok (.if_icmp .ge 71, 3)))) (
   sndC (sd_aload_n (hi := rfl) (hd := (by decide +kernel : decode cX11_worstBy 13 = .ok (.aload_n 0, 1)))) (
   sndC (sd_get (C := RX11) (T := TX11) (N := 41) (hc := rfl) (hin0 := iX11) (hk := by decide) (hlink := w_1042) (hd := (by decide +kernel : decode cX11_worstBy 14 = .ok (.getfield 38, 3)))) (
   sndC (sd_iload (hd := (by decide +kernel : decode cX11_worstBy 17 = .ok (.iload 4, 2)))) (
   sndC (sd_iald (hd := (by decide +kernel : decode cX11_worstBy 19 = .ok (.iaload, 1)))) (
   sndC (sd_iload_n (hi := rfl) (hd := (by decide +kernel : decode cX11_worstBy 20 = .ok (.iload_n 2, 1)))) (
   sndC (sd_iand (hd := (by decide +kernel : decode cX11_worstBy 21 = .ok (.iand, 1)))) (
   sndC (sd_iload_n (hi := rfl) (hd := (by decide +kernel : decode cX11_worstBy 22 = .ok (.iload_n 2, 1)))) (
   sndC (sd_cmp_ne (ht := by decide) (hd := (by decide +kernel : decode cX11_worstBy 23 = .ok (.if_icmp .ne 52, 3)))) (
   sndC (sd_iconst (hd := (by decide +kernel : decode cX11_worstBy 26 = .ok (.iconst 0, 1))) (hv := by decide)) (
   sndC (sd_istore (hd := (by decide +kernel : decode cX11_worstBy 27 = .ok (.istore 5, 2)))) (
   sndC (sd_iconst (hd := (by decide +kernel : decode cX11_worstBy 29 = .ok (.iconst 0, 1))) (hv := by decide)) (
   sndC (sd_istore (hd := (by decide +kernel : decode cX11_worstBy 30 = .ok (.istore 6, 2)))) (
   sndC (sd_iload (hd := (by decide +kernel : decode cX11_worstBy 32 = .ok (.iload 6, 2)))) (
   sndC (sd_bipush (hd := (by decide +kernel : decode cX11_worstBy 34 = .ok (.bipush 6, 2))) (hv := by decide)) (
   sndC (sd_cmp_ge (ht := by decide) (hd := (by decide +kernel : decode cX11_worstBy 36 = .ok (.if_icmp .ge 28, 3)))) (
   sndC (sd_bipush (hd := (by decide +kernel : decode cX11_worstBy 39 = .ok (.bipush 7, 2))) (hv := by decide)) (
   sndC (sd_iload (hd := (by decide +kernel : decode cX11_worstBy 41 = .ok (.iload 5, 2)))) (
   sndC (sd_imul (hd := (by decide +kernel : decode cX11_worstBy 43 = .ok (.imul, 1)))) (
   sndC (sd_aload_n (hi := rfl) (hd := (by decide +kernel : decode cX11_worstBy 44 = .ok (.aload_n 0, 1)))) (
   sndC (sd_iload_n (hi := rfl) (hd := (by decide +kernel : decode cX11_worstBy 45 = .ok (.iload_n 1, 1)))) (
   sndC (sd_iload (hd := (by decide +kernel : decode cX11_worstBy 46 = .ok (.iload 6, 2)))) (
   sndC (sd_iload (hd := (by decide +kernel : decode cX11_worstBy 48 = .ok (.iload 4, 2)))) (
   sndC (sd_iadd (hd := (by decide +kernel : decode cX11_worstBy 53 = .ok (.iadd, 1)))) (
   sndC (sd_iconst (hd := (by decide +kernel : decode cX11_worstBy 54 = .ok (.iconst 1, 1))) (hv := by decide)) (
   sndC (sd_iadd (hd := (by decide +kernel : decode cX11_worstBy 55 = .ok (.iadd, 1)))) (
   sndC (sd_istore (hd := (by decide +kernel : decode cX11_worstBy 56 = .ok (.istore 5, 2)))) (
   sndC (sd_iinc (hv := by decide) (hd := (by decide +kernel : decode cX11_worstBy 58 = .ok (.iinc 6 1, 3)))) (
   sndC (sd_goto (ht := by decide) (hd := (by decide +kernel : decode cX11_worstBy 61 = .ok (.goto (-29), 3)))) (
   sndC (sd_aload_n (hi := rfl) (hd := (by decide +kernel : decode cX11_worstBy 64 = .ok (.aload_n 0, 1)))) (
   sndC (sd_get (C := RX11) (T := TX11) (N := 41) (hc := rfl) (hin0 := iX11) (hk := by decide) (hlink := w_1044) (hd := (by decide +kernel : decode cX11_worstBy 65 = .ok (.getfield 44, 3)))) (
   sndC (sd_iload_n (hi := rfl) (hd := (by decide +kernel : decode cX11_worstBy 68 = .ok (.iload_n 3, 1)))) (
   sndC (sd_iload (hd := (by decide +kernel : decode cX11_worstBy 69 = .ok (.iload 5, 2)))) (
   sndC (sd_iast (hd := (by decide +kernel : decode cX11_worstBy 71 = .ok (.iastore, 1)))) (
   sndC (sd_iinc (hv := by decide) (hd := (by decide +kernel : decode cX11_worstBy 72 = .ok (.iinc 3 1, 3)))) (
   sndC (sd_iinc (hv := by decide) (hd := (by decide +kernel : decode cX11_worstBy 75 = .ok (.iinc 4 1, 3)))) (
   sndC (sd_goto (ht := by decide) (hd := (by decide +kernel : decode cX11_worstBy 78 = .ok (.goto (-73), 3)))) (
   sndC (sd_aload_n (hi := rfl) (hd := (by decide +kernel : decode cX11_worstBy 81 = .ok (.aload_n 0, 1)))) (
   sndC (sd_iload_n (hi := rfl) (hd := (by decide +kernel : decode cX11_worstBy 82 = .ok (.iload_n 3, 1)))) (
   sndC (sd_iconst (hd := (by decide +kernel : decode cX11_worstBy 86 = .ok (.iconst 0, 1))) (hv := by decide)) (
   sndC (sd_istore (hd := (by decide +kernel : decode cX11_worstBy 87 = .ok (.istore 4, 2)))) (
   sndC (sd_iconst (hd := (by decide +kernel : decode cX11_worstBy 89 = .ok (.iconst 0, 1))) (hv := by decide)) (
   sndC (sd_istore (hd := (by decide +kernel : decode cX11_worstBy 90 = .ok (.istore 5, 2)))) (
   sndC (sd_iconst (hd := (by decide +kernel : decode cX11_worstBy 92 = .ok (.iconst 0, 1))) (hv := by decide)) (
   sndC (sd_istore (hd := (by decide +kernel : decode cX11_worstBy 93 = .ok (.istore 6, 2)))) (
   sndC (sd_iload (hd := (by decide +kernel : decode cX11_worstBy 95 = .ok (.iload 6, 2)))) (
   sndC (sd_iload_n (hi := rfl) (hd := (by decide +kernel : decode cX11_worstBy 97 = .ok (.iload_n 3, 1)))) (
   sndC (sd_cmp_ge (ht := by decide) (hd := (by decide +kernel : decode cX11_worstBy 98 = .ok (.if_icmp .ge 59, 3)))) (
   sndC (sd_iload (hd := (by decide +kernel : decode cX11_worstBy 101 = .ok (.iload 6, 2)))) (
   sndC (sd_if_le (ht := by decide) (hd := (by decide +kernel : decode cX11_worstBy 103 = .ok (.ifCond .le 29, 3)))) (
   sndC (sd_aload_n (hi := rfl) (hd := (by decide +kernel : decode cX11_worstBy 106 = .ok (.aload_n 0, 1)))) (
   sndC (sd_get (C := RX11) (T := TX11) (N := 41) (hc := rfl) (hin0 := iX11) (hk := by decide) (hlink := w_1044) (hd := (by decide +kernel : decode cX11_worstBy 107 = .ok (.getfield 44, 3)))) (
   sndC (sd_iload (hd := (by decide +kernel : decode cX11_worstBy 110 = .ok (.iload 6, 2)))) (
   sndC (sd_iald (hd := (by decide +kernel : decode cX11_worstBy 112 = .ok (.iaload, 1)))) (
   sndC (sd_aload_n (hi := rfl) (hd := (by decide +kernel : decode cX11_worstBy 113 = .ok (.aload_n 0, 1)))) (
   sndC (sd_get (C := RX11) (T := TX11) (N := 41) (hc := rfl) (hin0 := iX11) (hk := by decide) (hlink := w_1044) (hd := (by decide +kernel : decode cX11_worstBy 114 = .ok (.getfield 44, 3)))) (
   sndC (sd_iload (hd := (by decide +kernel : decode cX11_worstBy 117 = .ok (.iload 6, 2)))) (
   sndC (sd_iconst (hd := (by decide +kernel : decode cX11_worstBy 119 = .ok (.iconst 1, 1))) (hv := by decide)) (
   sndC (sd_isub (hd := (by decide +kernel : decode cX11_worstBy 120 = .ok (.isub, 1)))) (
   sndC (sd_iald (hd := (by decide +kernel : decode cX11_worstBy 121 = .ok (.iaload, 1)))) (
   sndC (sd_cmp_ne (ht := by decide) (hd := (by decide +kernel : decode cX11_worstBy 122 = .ok (.if_icmp .ne 10, 3)))) (
   sndC (sd_iload (hd := (by decide +kernel : decode cX11_worstBy 125 = .ok (.iload 5, 2)))) (
   sndC (sd_iconst (hd := (by decide +kernel : decode cX11_worstBy 127 = .ok (.iconst 1, 1))) (hv := by decide)) (
   sndC (sd_iadd (hd := (by decide +kernel : decode cX11_worstBy 128 = .ok (.iadd, 1)))) (
   sndC (sd_goto (ht := by decide) (hd := (by decide +kernel : decode cX11_worstBy 129 = .ok (.goto 4, 3)))) (
   sndC (sd_iconst (hd := (by decide +kernel : decode cX11_worstBy 132 = .ok (.iconst 1, 1))) (hv := by decide)) (
   sndC (sd_istore (hd := (by decide +kernel : decode cX11_worstBy 133 = .ok (.istore 5, 2)))) (
   sndC (sd_iload (hd := (by decide +kernel : decode cX11_worstBy 135 = .ok (.iload 5, 2)))) (
   sndC (sd_iload (hd := (by decide +kernel : decode cX11_worstBy 137 = .ok (.iload 4, 2)))) (
   sndC (sd_cmp_le (ht := by decide) (hd := (by decide +kernel : decode cX11_worstBy 139 = .ok (.if_icmp .le 8, 3)))) (
   sndC (sd_iload (hd := (by decide +kernel : decode cX11_worstBy 142 = .ok (.iload 5, 2)))) (
   sndC (sd_goto (ht := by decide) (hd := (by decide +kernel : decode cX11_worstBy 144 = .ok (.goto 5, 3)))) (
   sndC (sd_iload (hd := (by decide +kernel : decode cX11_worstBy 147 = .ok (.iload 4, 2)))) (
   sndC (sd_istore (hd := (by decide +kernel : decode cX11_worstBy 149 = .ok (.istore 4, 2)))) (
   sndC (sd_iinc (hv := by decide) (hd := (by decide +kernel : decode cX11_worstBy 151 = .ok (.iinc 6 1, 3)))) (
   sndC (sd_goto (ht := by decide) (hd := (by decide +kernel : decode cX11_worstBy 154 = .ok (.goto (-59), 3)))) (
   sndC (sd_iload (hd := (by decide +kernel : decode cX11_worstBy 157 = .ok (.iload 4, 2)))) (
   sndN)))))))))))))))))))))))))))))))))))))))))))))))))))))))))))))))))))))))))))))))))))⟩
theorem kX11_worstBy_50 : CallAt mX11_worstBy 50 0 mX11_saysBy 3 := ⟨by decide +kernel, ⟨_, (by decide +kernel : decode cX11_worstBy 50 = .ok (.invokevirtual 368, 3)), w_1425, w_1427, w_103⟩⟩
theorem kX11_worstBy_83 : CallAt mX11_worstBy 83 0 mX11_sorts1 1 := ⟨by decide +kernel, ⟨_, (by decide +kernel : decode cX11_worstBy 83 = .ok (.invokevirtual 404, 3)), w_1490, w_1492, w_112⟩⟩

set_option maxRecDepth 20000 in
theorem GX11_safest : Good mX11_safest := ⟨by decide +kernel, List.mem_of_getElem? (i := 1485) (by decide +kernel), inX11, ⟨by decide +kernel, by decide +kernel⟩, by decide, show ∀ q ∈ tX11_safest, Snd mX11_safest q.1 q.2 from
  sndC (sd_iload_n (hi := rfl) (hd := (by decide +kernel : decode cX11_safest 0 = .ok (.iload_n 1, 1)))) (
   sndC (sd_i2l (hd := (by decide +kernel : decode cX11_safest 1 = .ok (.i2l, 1)))) (
   sndC (sd_lconst (hd := (by decide +kernel : decode cX11_safest 2 = .ok (.lconst 0, 1))) (hv := by decide)) (
   sndC (sd_lconst (hd := (by decide +kernel : decode cX11_safest 3 = .ok (.lconst 1, 1))) (hv := by decide)) (
   sndC (sd_if_ne (ht := by decide) (hd := (by decide +kernel : decode cX11_safest 7 = .ok (.ifCond .ne 6, 3)))) (
   sndC (sd_bipush (hd := (by decide +kernel : decode cX11_safest 10 = .ok (.bipush (-2), 2))) (hv := by decide)) (
   sndC (sd_aload_n (hi := rfl) (hd := (by decide +kernel : decode cX11_safest 13 = .ok (.aload_n 0, 1)))) (
   sndC (sd_aload_n (hi := rfl) (hd := (by decide +kernel : decode cX11_safest 17 = .ok (.aload_n 0, 1)))) (
   sndC (sd_istore_n (hi := rfl) (hd := (by decide +kernel : decode cX11_safest 21 = .ok (.istore_n 2, 1)))) (
   sndC (sd_iconst (hd := (by decide +kernel : decode cX11_safest 22 = .ok (.iconst (-1), 1))) (hv := by decide)) (
   sndC (sd_istore_n (hi := rfl) (hd := (by decide +kernel : decode cX11_safest 23 = .ok (.istore_n 3, 1)))) (
   sndC (sd_aload_n (hi := rfl) (hd := (by decide +kernel : decode cX11_safest 24 = .ok (.aload_n 0, 1)))) (
   sndC (sd_iload_n (hi := rfl) (hd := (by decide +kernel : decode cX11_safest 25 = .ok (.iload_n 2, 1)))) (
   sndC (sd_istore (hd := (by decide +kernel : decode cX11_safest 29 = .ok (.istore 4, 2)))) (
   sndC (sd_iconst (hd := (by decide +kernel : decode cX11_safest 31 = .ok (.iconst 0, 1))) (hv := by decide)) (
   sndC (sd_istore (hd := (by decide +kernel : decode cX11_safest 32 = .ok (.istore 5, 2)))) (
   sndC (sd_iload (hd := (by decide +kernel : decode cX11_safest 34 = .ok (.iload 5, 2)))) (
   sndC (sd_aload_n (hi := rfl) (hd := (by decide +kernel : decode cX11_safest 36 = .ok (.aload_n 0, 1)))) (
   sndC (sd_get (C := RX11) (T := TX11) (N := 41) (hc := rfl) (hin0 := iX11) (hk := by decide) (hlink := w_1025) (hd := (by decide +kernel : decode cX11_safest 37 = .ok (.getfield 79, 3)))) (
   sndC (sd_cmp_ge (ht := by decide) (hd := (by decide +kernel : decode cX11_safest 40 = .ok (.if_icmp .ge 46, 3)))) (
   sndC (sd_iload_n (hi := rfl) (hd := (by decide +kernel : decode cX11_safest 43 = .ok (.iload_n 2, 1)))) (
   sndC (sd_iload (hd := (by decide +kernel : decode cX11_safest 44 = .ok (.iload 5, 2)))) (
   sndC (sd_ishr (hd := (by decide +kernel : decode cX11_safest 46 = .ok (.ishr, 1)))) (
   sndC (sd_iconst (hd := (by decide +kernel : decode cX11_safest 47 = .ok (.iconst 1, 1))) (hv := by decide)) (
   sndC (sd_iand (hd := (by decide +kernel : decode cX11_safest 48 = .ok (.iand, 1)))) (
   sndC (sd_if_ne (ht := by decide) (hd := (by decide +kernel : decode cX11_safest 49 = .ok (.ifCond .ne 31, 3)))) (
   sndC (sd_aload_n (hi := rfl) (hd := (by decide +kernel : decode cX11_safest 52 = .ok (.aload_n 0, 1)))) (
   sndC (sd_iload (hd := (by decide +kernel : decode cX11_safest 53 = .ok (.iload 5, 2)))) (
   sndC (sd_iload_n (hi := rfl) (hd := (by decide +kernel : decode cX11_safest 55 = .ok (.iload_n 2, 1)))) (
   sndC (sd_istore (hd := (by decide +kernel : decode cX11_safest 59 = .ok (.istore 6, 2)))) (
   sndC (sd_iload_n (hi := rfl) (hd := (by decide +kernel : decode cX11_safest 61 = .ok (.iload_n 3, 1)))) (
   sndC (sd_iconst (hd := (by decide +kernel : decode cX11_safest 62 = .ok (.iconst (-1), 1))) (hv := by decide)) (
   sndC (sd_cmp_eq (ht := by decide) (hd := (by decide +kernel : decode cX11_safest 63 = .ok (.if_icmp .eq 10, 3)))) (
   sndC (sd_iload (hd := (by decide +kernel : decode cX11_safest 66 = .ok (.iload 6, 2)))) (
   sndC (sd_iload (hd := (by decide +kernel : decode cX11_safest 68 = .ok (.iload 4, 2)))) (
   sndC (sd_cmp_ge (ht := by decide) (hd := (by decide +kernel : decode cX11_safest 70 = .ok (.if_icmp .ge 10, 3)))) (
   sndC (sd_iload (hd := (by decide +kernel : decode cX11_safest 73 = .ok (.iload 5, 2)))) (
   sndC (sd_istore_n (hi := rfl) (hd := (by decide +kernel : decode cX11_safest 75 = .ok (.istore_n 3, 1)))) (
   sndC (sd_iload (hd := (by decide +kernel : decode cX11_safest 76 = .ok (.iload 6, 2)))) (
   sndC (sd_istore (hd := (by decide +kernel : decode cX11_safest 78 = .ok (.istore 4, 2)))) (
   sndC (sd_iinc (hv := by decide) (hd := (by decide +kernel : decode cX11_safest 80 = .ok (.iinc 5 1, 3)))) (
   sndC (sd_goto (ht := by decide) (hd := (by decide +kernel : decode cX11_safest 83 = .ok (.goto (-49), 3)))) (
   sndC (sd_iload_n (hi := rfl) (hd := (by decide +kernel : decode cX11_safest 86 = .ok (.iload_n 1, 1)))) (
   sndC (sd_if_ne (ht := by decide) (hd := (by decide +kernel : decode cX11_safest 87 = .ok (.ifCond .ne 7, 3)))) (
   sndC (sd_iload_n (hi := rfl) (hd := (by decide +kernel : decode cX11_safest 90 = .ok (.iload_n 3, 1)))) (
   sndC (sd_goto (ht := by decide) (hd := (by decide +kernel : decode cX11_safest 91 = .ok (.goto 5, 3)))) (
   sndC (sd_iload (hd := (by decide +kernel : decode cX11_safest 94 = .ok (.iload 4, 2)))) (
   sndN)))))))))))))))))))))))))))))))))))))))))))))))⟩
theorem kX11_safest_4 : CallAt mX11_safest 4 1 mX11_in 3 := ⟨by decide +kernel, ⟨_, (by decide +kernel : decode cX11_safest 4 = .ok (.invokestatic 82, 3)), w_1144, w_1145⟩⟩
theorem kX11_safest_14 : CallAt mX11_safest 14 0 mX11_gathers 0 := ⟨by decide +kernel, ⟨_, (by decide +kernel : decode cX11_safest 14 = .ok (.invokevirtual 378, 3)), w_1410, w_1412, w_100⟩⟩
theorem kX11_safest_18 : CallAt mX11_safest 18 0 mX11_sentSet 0 := ⟨by decide +kernel, ⟨_, (by decide +kernel : decode cX11_safest 18 = .ok (.invokevirtual 371, 3)), w_1435, w_1437, w_104⟩⟩
theorem kX11_safest_26 : CallAt mX11_safest 26 0 mX11_livesBy 1 := ⟨by decide +kernel, ⟨_, (by decide +kernel : decode cX11_safest 26 = .ok (.invokevirtual 381, 3)), w_1439, w_1441, w_105⟩⟩
theorem kX11_safest_56 : CallAt mX11_safest 56 0 mX11_worstBy 2 := ⟨by decide +kernel, ⟨_, (by decide +kernel : decode cX11_safest 56 = .ok (.invokevirtual 407, 3)), w_1486, w_1488, w_111⟩⟩

set_option maxRecDepth 20000 in
theorem GX11_fewest : Good mX11_fewest := ⟨by decide +kernel, List.mem_of_getElem? (i := 1501) (by decide +kernel), inX11, ⟨by decide +kernel, by decide +kernel⟩, by decide, show ∀ q ∈ tX11_fewest, Snd mX11_fewest q.1 q.2 from
  sndC (sd_iload_n (hi := rfl) (hd := (by decide +kernel : decode cX11_fewest 0 = .ok (.iload_n 1, 1)))) (
   sndC (sd_i2l (hd := (by decide +kernel : decode cX11_fewest 1 = .ok (.i2l, 1)))) (
   sndC (sd_lconst (hd := (by decide +kernel : decode cX11_fewest 2 = .ok (.lconst 0, 1))) (hv := by decide)) (
   sndC (sd_ldc2 (hw := w_1143) (hd := (by decide +kernel : decode cX11_fewest 3 = .ok (.ldc2_w 95, 3)))) (
   sndC (sd_if_ne (ht := by decide) (hd := (by decide +kernel : decode cX11_fewest 9 = .ok (.ifCond .ne 6, 3)))) (
   sndC (sd_bipush (hd := (by decide +kernel : decode cX11_fewest 12 = .ok (.bipush (-2), 2))) (hv := by decide)) (
   sndC (sd_aload_n (hi := rfl) (hd := (by decide +kernel : decode cX11_fewest 15 = .ok (.aload_n 0, 1)))) (
   sndC (sd_iconst (hd := (by decide +kernel : decode cX11_fewest 19 = .ok (.iconst 1, 1))) (hv := by decide)) (
   sndC (sd_aload_n (hi := rfl) (hd := (by decide +kernel : decode cX11_fewest 20 = .ok (.aload_n 0, 1)))) (
   sndC (sd_get (C := RX11) (T := TX11) (N := 41) (hc := rfl) (hin0 := iX11) (hk := by decide) (hlink := w_1025) (hd := (by decide +kernel : decode cX11_fewest 21 = .ok (.getfield 79, 3)))) (
   sndC (sd_ishl (hd := (by decide +kernel : decode cX11_fewest 24 = .ok (.ishl, 1)))) (
   sndC (sd_iconst (hd := (by decide +kernel : decode cX11_fewest 25 = .ok (.iconst 1, 1))) (hv := by decide)) (
   sndC (sd_isub (hd := (by decide +kernel : decode cX11_fewest 26 = .ok (.isub, 1)))) (
   sndC (sd_istore_n (hi := rfl) (hd := (by decide +kernel : decode cX11_fewest 27 = .ok (.istore_n 2, 1)))) (
   sndC (sd_aload_n (hi := rfl) (hd := (by decide +kernel : decode cX11_fewest 28 = .ok (.aload_n 0, 1)))) (
   sndC (sd_iload_n (hi := rfl) (hd := (by decide +kernel : decode cX11_fewest 29 = .ok (.iload_n 2, 1)))) (
   sndC (sd_istore_n (hi := rfl) (hd := (by decide +kernel : decode cX11_fewest 33 = .ok (.istore_n 3, 1)))) (
   sndC (sd_iload_n (hi := rfl) (hd := (by decide +kernel : decode cX11_fewest 34 = .ok (.iload_n 2, 1)))) (
   sndC (sd_istore (hd := (by decide +kernel : decode cX11_fewest 35 = .ok (.istore 4, 2)))) (
   sndC (sd_iload_n (hi := rfl) (hd := (by decide +kernel : decode cX11_fewest 37 = .ok (.iload_n 2, 1)))) (
   sndC (sd_istore (hd := (by decide +kernel : decode cX11_fewest 38 = .ok (.istore 5, 2)))) (
   sndC (sd_iload_n (hi := rfl) (hd := (by decide +kernel : decode cX11_fewest 40 = .ok (.iload_n 2, 1)))) (
   sndC (sd_istore (hd := (by decide +kernel : decode cX11_fewest 41 = .ok (.istore 6, 2)))) (
   sndC (sd_iload (hd := (by decide +kernel : decode cX11_fewest 43 = .ok (.iload 6, 2)))) (
   sndC (sd_if_lt (ht := by decide) (hd := (by decide +kernel : decode cX11_fewest 45 = .ok (.ifCond .lt 65, 3)))) (
   sndC (sd_aload_n (hi := rfl) (hd := (by decide +kernel : decode cX11_fewest 48 = .ok (.aload_n 0, 1)))) (
   sndC (sd_iload (hd := (by decide +kernel : decode cX11_fewest 49 = .ok (.iload 6, 2)))) (
   sndC (sd_iload_n (hi := rfl) (hd := (by decide +kernel : decode cX11_fewest 54 = .ok (.iload_n 3, 1)))) (
   sndC (sd_cmp_ne (ht := by decide) (hd := (by decide +kernel : decode cX11_fewest 55 = .ok (.if_icmp .ne 49, 3)))) (
   sndC (sd_iload (hd := (by decide +kernel : decode cX11_fewest 58 = .ok (.iload 6, 2)))) (
   sndC (sd_iload (hd := (by decide +kernel : decode cX11_fewest 63 = .ok (.iload 4, 2)))) (
   sndC (sd_cmp_gt (ht := by decide) (hd := (by decide +kernel : decode cX11_fewest 68 = .ok (.if_icmp .gt 8, 3)))) (
   sndC (sd_iload (hd := (by decide +kernel : decode cX11_fewest 71 = .ok (.iload 6, 2)))) (
   sndC (sd_goto (ht := by decide) (hd := (by decide +kernel : decode cX11_fewest 73 = .ok (.goto 5, 3)))) (
   sndC (sd_iload (hd := (by decide +kernel : decode cX11_fewest 76 = .ok (.iload 4, 2)))) (
   sndC (sd_istore (hd := (by decide +kernel : decode cX11_fewest 78 = .ok (.istore 4, 2)))) (
   sndC (sd_aload_n (hi := rfl) (hd := (by decide +kernel : decode cX11_fewest 80 = .ok (.aload_n 0, 1)))) (
   sndC (sd_iload (hd := (by decide +kernel : decode cX11_fewest 81 = .ok (.iload 6, 2)))) (
   sndC (sd_aload_n (hi := rfl) (hd := (by decide +kernel : decode cX11_fewest 86 = .ok (.aload_n 0, 1)))) (
   sndC (sd_iload (hd := (by decide +kernel : decode cX11_fewest 87 = .ok (.iload 5, 2)))) (
   sndC (sd_cmp_gt (ht := by decide) (hd := (by decide +kernel : decode cX11_fewest 92 = .ok (.if_icmp .gt 8, 3)))) (
   sndC (sd_iload (hd := (by decide +kernel : decode cX11_fewest 95 = .ok (.iload 6, 2)))) (
   sndC (sd_goto (ht := by decide) (hd := (by decide +kernel : decode cX11_fewest 97 = .ok (.goto 5, 3)))) (
   sndC (sd_iload (hd := (by decide +kernel : decode cX11_fewest 100 = .ok (.iload 5, 2)))) (
   sndC (sd_istore (hd := (by decide +kernel : decode cX11_fewest 102 = .ok (.istore 5, 2)))) (
   sndC (sd_iinc (hv := by decide) (hd := (by decide +kernel : decode cX11_fewest 104 = .ok (.iinc 6 (-1), 3)))) (
   sndC (sd_goto (ht := by decide) (hd := (by decide +kernel : decode cX11_fewest 107 = .ok (.goto (-64), 3)))) (
   sndC (sd_iload_n (hi := rfl) (hd := (by decide +kernel : decode cX11_fewest 110 = .ok (.iload_n 1, 1)))) (
   sndC (sd_iconst (hd := (by decide +kernel : decode cX11_fewest 111 = .ok (.iconst 2, 1))) (hv := by decide)) (
   sndC (sd_cmp_ge (ht := by decide) (hd := (by decide +kernel : decode cX11_fewest 112 = .ok (.if_icmp .ge 18, 3)))) (
   sndC (sd_iload_n (hi := rfl) (hd := (by decide +kernel : decode cX11_fewest 115 = .ok (.iload_n 1, 1)))) (
   sndC (sd_if_ne (ht := by decide) (hd := (by decide +kernel : decode cX11_fewest 116 = .ok (.ifCond .ne 8, 3)))) (
   sndC (sd_iload (hd := (by decide +kernel : decode cX11_fewest 119 = .ok (.iload 4, 2)))) (
   sndC (sd_goto (ht := by decide) (hd := (by decide +kernel : decode cX11_fewest 121 = .ok (.goto 8, 3)))) (
   sndC (sd_iload (hd := (by decide +kernel : decode cX11_fewest 124 = .ok (.iload 4, 2)))) (
   sndC (sd_iload_n (hi := rfl) (hd := (by decide +kernel : decode cX11_fewest 130 = .ok (.iload_n 1, 1)))) (
   sndC (sd_iconst (hd := (by decide +kernel : decode cX11_fewest 131 = .ok (.iconst 2, 1))) (hv := by decide)) (
   sndC (sd_cmp_ne (ht := by decide) (hd := (by decide +kernel : decode cX11_fewest 132 = .ok (.if_icmp .ne 8, 3)))) (
   sndC (sd_iload (hd := (by decide +kernel : decode cX11_fewest 135 = .ok (.iload 5, 2)))) (
   sndC (sd_goto (ht := by decide) (hd := (by decide +kernel : decode cX11_fewest 137 = .ok (.goto 18, 3)))) (
   sndC (sd_iload_n (hi := rfl) (hd := (by decide +kernel : decode cX11_fewest 140 = .ok (.iload_n 1, 1)))) (
   sndC (sd_iconst (hd := (by decide +kernel : decode cX11_fewest 141 = .ok (.iconst 3, 1))) (hv := by decide)) (
   sndC (sd_cmp_ne (ht := by decide) (hd := (by decide +kernel : decode cX11_fewest 142 = .ok (.if_icmp .ne 12, 3)))) (
   sndC (sd_aload_n (hi := rfl) (hd := (by decide +kernel : decode cX11_fewest 145 = .ok (.aload_n 0, 1)))) (
   sndC (sd_iload (hd := (by decide +kernel : decode cX11_fewest 146 = .ok (.iload 5, 2)))) (
   sndC (sd_goto (ht := by decide) (hd := (by decide +kernel : decode cX11_fewest 151 = .ok (.goto 4, 3)))) (
   sndC (sd_iload_n (hi := rfl) (hd := (by decide +kernel : decode cX11_fewest 154 = .ok (.iload_n 3, 1)))) (
   sndN)))))))))))))))))))))))))))))))))))))))))))))))))))))))))))))))))))⟩
theorem kX11_fewest_6 : CallAt mX11_fewest 6 1 mX11_in 3 := ⟨by decide +kernel, ⟨_, (by decide +kernel : decode cX11_fewest 6 = .ok (.invokestatic 82, 3)), w_1144, w_1145⟩⟩
theorem kX11_fewest_16 : CallAt mX11_fewest 16 0 mX11_gathers 0 := ⟨by decide +kernel, ⟨_, (by decide +kernel : decode cX11_fewest 16 = .ok (.invokevirtual 378, 3)), w_1410, w_1412, w_100⟩⟩
theorem kX11_fewest_30 : CallAt mX11_fewest 30 0 mX11_livesBy 1 := ⟨by decide +kernel, ⟨_, (by decide +kernel : decode cX11_fewest 30 = .ok (.invokevirtual 381, 3)), w_1439, w_1441, w_105⟩⟩
theorem kX11_fewest_51 : CallAt mX11_fewest 51 0 mX11_livesBy 1 := ⟨by decide +kernel, ⟨_, (by decide +kernel : decode cX11_fewest 51 = .ok (.invokevirtual 381, 3)), w_1439, w_1441, w_105⟩⟩
theorem kX11_fewest_60 : CallAt mX11_fewest 60 1 mX11_bitsOf 1 := ⟨by decide +kernel, ⟨_, (by decide +kernel : decode cX11_fewest 60 = .ok (.invokestatic 338, 3)), w_1181, w_1182⟩⟩
theorem kX11_fewest_65 : CallAt mX11_fewest 65 1 mX11_bitsOf 1 := ⟨by decide +kernel, ⟨_, (by decide +kernel : decode cX11_fewest 65 = .ok (.invokestatic 338, 3)), w_1181, w_1182⟩⟩
theorem kX11_fewest_83 : CallAt mX11_fewest 83 0 mX11_costsBy 1 := ⟨by decide +kernel, ⟨_, (by decide +kernel : decode cX11_fewest 83 = .ok (.invokevirtual 394, 3)), w_1459, w_1461, w_110⟩⟩
theorem kX11_fewest_89 : CallAt mX11_fewest 89 0 mX11_costsBy 1 := ⟨by decide +kernel, ⟨_, (by decide +kernel : decode cX11_fewest 89 = .ok (.invokevirtual 394, 3)), w_1459, w_1461, w_110⟩⟩
theorem kX11_fewest_126 : CallAt mX11_fewest 126 1 mX11_bitsOf 1 := ⟨by decide +kernel, ⟨_, (by decide +kernel : decode cX11_fewest 126 = .ok (.invokestatic 338, 3)), w_1181, w_1182⟩⟩
theorem kX11_fewest_148 : CallAt mX11_fewest 148 0 mX11_costsBy 1 := ⟨by decide +kernel, ⟨_, (by decide +kernel : decode cX11_fewest 148 = .ok (.invokevirtual 394, 3)), w_1459, w_1461, w_110⟩⟩

set_option maxRecDepth 20000 in
theorem GX11_wrong : Good mX11_wrong := ⟨by decide +kernel, List.mem_of_getElem? (i := 1505) (by decide +kernel), inX11, ⟨by decide +kernel, by decide +kernel⟩, by decide, show ∀ q ∈ tX11_wrong, Snd mX11_wrong q.1 q.2 from
  sndC (sd_iconst (hd := (by decide +kernel : decode cX11_wrong 0 = .ok (.iconst 0, 1))) (hv := by decide)) (
   sndC (sd_istore_n (hi := rfl) (hd := (by decide +kernel : decode cX11_wrong 1 = .ok (.istore_n 1, 1)))) (
   sndC (sd_iload_n (hi := rfl) (hd := (by decide +kernel : decode cX11_wrong 2 = .ok (.iload_n 1, 1)))) (
   sndC (sd_aload_n (hi := rfl) (hd := (by decide +kernel : decode cX11_wrong 3 = .ok (.aload_n 0, 1)))) (
   sndC (sd_get (C := RX11) (T := TX11) (N := 41) (hc := rfl) (hin0 := iX11) (hk := by decide) (hlink := w_1025) (hd := (by decide +kernel : decode cX11_wrong 4 = .ok (.getfield 79, 3)))) (
   sndC (sd_cmp_ge (ht := by decide) (hd := (by decide +kernel : decode cX11_wrong 7 = .ok (.if_icmp .ge 54, 3)))) (
   sndC (sd_iconst (hd := (by decide +kernel : decode cX11_wrong 10 = .ok (.iconst 0, 1))) (hv := by decide)) (
   sndC (sd_istore_n (hi := rfl) (hd := (by decide +kernel : decode cX11_wrong 11 = .ok (.istore_n 2, 1)))) (
   sndC (sd_iload_n (hi := rfl) (hd := (by decide +kernel : decode cX11_wrong 12 = .ok (.iload_n 2, 1)))) (
   sndC (sd_bipush (hd := (by decide +kernel : decode cX11_wrong 13 = .ok (.bipush 6, 2))) (hv := by decide)) (
   sndC (sd_cmp_ge (ht := by decide) (hd := (by decide +kernel : decode cX11_wrong 15 = .ok (.if_icmp .ge 40, 3)))) (
   sndC (sd_aload_n (hi := rfl) (hd := (by decide +kernel : decode cX11_wrong 18 = .ok (.aload_n 0, 1)))) (
   sndC (sd_iload_n (hi := rfl) (hd := (by decide +kernel : decode cX11_wrong 19 = .ok (.iload_n 1, 1)))) (
   sndC (sd_iload_n (hi := rfl) (hd := (by decide +kernel : decode cX11_wrong 20 = .ok (.iload_n 2, 1)))) (
   sndC (sd_istore_n (hi := rfl) (hd := (by decide +kernel : decode cX11_wrong 24 = .ok (.istore_n 3, 1)))) (
   sndC (sd_iload_n (hi := rfl) (hd := (by decide +kernel : decode cX11_wrong 25 = .ok (.iload_n 3, 1)))) (
   sndC (sd_i2l (hd := (by decide +kernel : decode cX11_wrong 26 = .ok (.i2l, 1)))) (
   sndC (sd_lconst (hd := (by decide +kernel : decode cX11_wrong 27 = .ok (.lconst 0, 1))) (hv := by decide)) (
   sndC (sd_ldc2 (hw := w_1506) (hd := (by decide +kernel : decode cX11_wrong 28 = .ok (.ldc2_w 410, 3)))) (
   sndC (sd_if_eq (ht := by decide) (hd := (by decide +kernel : decode cX11_wrong 34 = .ok (.ifCond .eq 15, 3)))) (
   sndC (sd_iload_n (hi := rfl) (hd := (by decide +kernel : decode cX11_wrong 37 = .ok (.iload_n 3, 1)))) (
   sndC (sd_aload_n (hi := rfl) (hd := (by decide +kernel : decode cX11_wrong 38 = .ok (.aload_n 0, 1)))) (
   sndC (sd_get (C := RX11) (T := TX11) (N := 41) (hc := rfl) (hin0 := iX11) (hk := by decide) (hlink := w_1022) (hd := (by decide +kernel : decode cX11_wrong 39 = .ok (.getfield 26, 3)))) (
   sndC (sd_iload_n (hi := rfl) (hd := (by decide +kernel : decode cX11_wrong 42 = .ok (.iload_n 2, 1)))) (
   sndC (sd_iald (hd := (by decide +kernel : decode cX11_wrong 43 = .ok (.iaload, 1)))) (
   sndC (sd_cmp_eq (ht := by decide) (hd := (by decide +kernel : decode cX11_wrong 44 = .ok (.if_icmp .eq 5, 3)))) (
   sndC (sd_iload_n (hi := rfl) (hd := (by decide +kernel : decode cX11_wrong 47 = .ok (.iload_n 1, 1)))) (
   sndC (sd_iinc (hv := by decide) (hd := (by decide +kernel : decode cX11_wrong 49 = .ok (.iinc 2 1, 3)))) (
   sndC (sd_goto (ht := by decide) (hd := (by decide +kernel : decode cX11_wrong 52 = .ok (.goto (-40), 3)))) (
   sndC (sd_iinc (hv := by decide) (hd := (by decide +kernel : decode cX11_wrong 55 = .ok (.iinc 1 1, 3)))) (
   sndC (sd_goto (ht := by decide) (hd := (by decide +kernel : decode cX11_wrong 58 = .ok (.goto (-56), 3)))) (
   sndC (sd_iconst (hd := (by decide +kernel : decode cX11_wrong 61 = .ok (.iconst (-1), 1))) (hv := by decide)) (
   sndN))))))))))))))))))))))))))))))))⟩
theorem kX11_wrong_21 : CallAt mX11_wrong 21 0 mX11_saysNow 2 := ⟨by decide +kernel, ⟨_, (by decide +kernel : decode cX11_wrong 21 = .ok (.invokevirtual 126, 3)), w_1169, w_1171, w_49⟩⟩
theorem kX11_wrong_31 : CallAt mX11_wrong 31 1 mX11_in 3 := ⟨by decide +kernel, ⟨_, (by decide +kernel : decode cX11_wrong 31 = .ok (.invokestatic 82, 3)), w_1144, w_1145⟩⟩

set_option maxRecDepth 20000 in
theorem GX11_firstOther : Good mX11_firstOther := ⟨by decide +kernel, List.mem_of_getElem? (i := 1518) (by decide +kernel), inX11, ⟨by decide +kernel, by decide +kernel⟩, by decide, show ∀ q ∈ tX11_firstOther, Snd mX11_firstOther q.1 q.2 from
  sndC (sd_iconst (hd := (by decide +kernel : decode cX11_firstOther 0 = .ok (.iconst 0, 1))) (hv := by decide)) (
   sndC (sd_istore_n (hi := rfl) (hd := (by decide +kernel : decode cX11_firstOther 1 = .ok (.istore_n 3, 1)))) (
   sndC (sd_iload_n (hi := rfl) (hd := (by decide +kernel : decode cX11_firstOther 2 = .ok (.iload_n 3, 1)))) (
   sndC (sd_bipush (hd := (by decide +kernel : decode cX11_firstOther 3 = .ok (.bipush 6, 2))) (hv := by decide)) (
   sndC (sd_cmp_ge (ht := by decide) (hd := (by decide +kernel : decode cX11_firstOther 5 = .ok (.if_icmp .ge 31, 3)))) (
   sndC (sd_aload_n (hi := rfl) (hd := (by decide +kernel : decode cX11_firstOther 8 = .ok (.aload_n 0, 1)))) (
   sndC (sd_iload_n (hi := rfl) (hd := (by decide +kernel : decode cX11_firstOther 9 = .ok (.iload_n 2, 1)))) (
   sndC (sd_iload_n (hi := rfl) (hd := (by decide +kernel : decode cX11_firstOther 10 = .ok (.iload_n 3, 1)))) (
   sndC (sd_aload_n (hi := rfl) (hd := (by decide +kernel : decode cX11_firstOther 14 = .ok (.aload_n 0, 1)))) (
   sndC (sd_get (C := RX11) (T := TX11) (N := 41) (hc := rfl) (hin0 := iX11) (hk := by decide) (hlink := w_1054) (hd := (by decide +kernel : decode cX11_firstOther 15 = .ok (.getfield 69, 3)))) (
   sndC (sd_bipush (hd := (by decide +kernel : decode cX11_firstOther 18 = .ok (.bipush 40, 2))) (hv := by decide)) (
   sndC (sd_iload_n (hi := rfl) (hd := (by decide +kernel : decode cX11_firstOther 20 = .ok (.iload_n 1, 1)))) (
   sndC (sd_imul (hd := (by decide +kernel : decode cX11_firstOther 21 = .ok (.imul, 1)))) (
   sndC (sd_iload_n (hi := rfl) (hd := (by decide +kernel : decode cX11_firstOther 22 = .ok (.iload_n 3, 1)))) (
   sndC (sd_iadd (hd := (by decide +kernel : decode cX11_firstOther 23 = .ok (.iadd, 1)))) (
   sndC (sd_iald (hd := (by decide +kernel : decode cX11_firstOther 24 = .ok (.iaload, 1)))) (
   sndC (sd_cmp_eq (ht := by decide) (hd := (by decide +kernel : decode cX11_firstOther 25 = .ok (.if_icmp .eq 5, 3)))) (
   sndC (sd_iload_n (hi := rfl) (hd := (by decide +kernel : decode cX11_firstOther 28 = .ok (.iload_n 3, 1)))) (
   sndC (sd_iinc (hv := by decide) (hd := (by decide +kernel : decode cX11_firstOther 30 = .ok (.iinc 3 1, 3)))) (
   sndC (sd_goto (ht := by decide) (hd := (by decide +kernel : decode cX11_firstOther 33 = .ok (.goto (-31), 3)))) (
   sndC (sd_iconst (hd := (by decide +kernel : decode cX11_firstOther 36 = .ok (.iconst (-1), 1))) (hv := by decide)) (
   sndN)))))))))))))))))))))⟩
theorem kX11_firstOther_11 : CallAt mX11_firstOther 11 0 mX11_saysNow 2 := ⟨by decide +kernel, ⟨_, (by decide +kernel : decode cX11_firstOther 11 = .ok (.invokevirtual 126, 3)), w_1169, w_1171, w_49⟩⟩

set_option maxRecDepth 20000 in
theorem GX11_livesTold : Good mX11_livesTold := ⟨by decide +kernel, List.mem_of_getElem? (i := 1522) (by decide +kernel), inX11, ⟨by decide +kernel, by decide +kernel⟩, by decide, show ∀ q ∈ tX11_livesTold, Snd mX11_livesTold q.1 q.2 from
  sndC (sd_aload_n (hi := rfl) (hd := (by decide +kernel : decode cX11_livesTold 0 = .ok (.aload_n 0, 1)))) (
   sndC (sd_iconst (hd := (by decide +kernel : decode cX11_livesTold 4 = .ok (.iconst 0, 1))) (hv := by decide)) (
   sndC (sd_istore (hd := (by decide +kernel : decode cX11_livesTold 5 = .ok (.istore 4, 2)))) (
   sndC (sd_iconst (hd := (by decide +kernel : decode cX11_livesTold 7 = .ok (.iconst 0, 1))) (hv := by decide)) (
   sndC (sd_istore (hd := (by decide +kernel : decode cX11_livesTold 8 = .ok (.istore 5, 2)))) (
   sndC (sd_iconst (hd := (by decide +kernel : decode cX11_livesTold 10 = .ok (.iconst 0, 1))) (hv := by decide)) (
   sndC (sd_istore (hd := (by decide +kernel : decode cX11_livesTold 11 = .ok (.istore 6, 2)))) (
   sndC (sd_iload (hd := (by decide +kernel : decode cX11_livesTold 13 = .ok (.iload 6, 2)))) (
   sndC (sd_sipush (hd := (by decide +kernel : decode cX11_livesTold 15 = .ok (.sipush 4096, 3))) (hv := by decide)) (
   sndC (sd_cmp_ge (ht := by decide) (hd := (by decide +kernel : decode cX11_livesTold 18 = .ok (.if_icmp .ge 89, 3)))) (
   sndC (sd_iconst (hd := (by decide +kernel : decode cX11_livesTold 21 = .ok (.iconst 1, 1))) (hv := by decide)) (
   sndC (sd_istore (hd := (by decide +kernel : decode cX11_livesTold 22 = .ok (.istore 7, 2)))) (
   sndC (sd_iconst (hd := (by decide +kernel : decode cX11_livesTold 24 = .ok (.iconst 0, 1))) (hv := by decide)) (
   sndC (sd_istore (hd := (by decide +kernel : decode cX11_livesTold 25 = .ok (.istore 8, 2)))) (
   sndC (sd_iload (hd := (by decide +kernel : decode cX11_livesTold 27 = .ok (.iload 8, 2)))) (
   sndC (sd_bipush (hd := (by decide +kernel : decode cX11_livesTold 29 = .ok (.bipush 6, 2))) (hv := by decide)) (
   sndC (sd_cmp_ge (ht := by decide) (hd := (by decide +kernel : decode cX11_livesTold 31 = .ok (.if_icmp .ge 45, 3)))) (
   sndC (sd_iload (hd := (by decide +kernel : decode cX11_livesTold 34 = .ok (.iload 7, 2)))) (
   sndC (sd_if_eq (ht := by decide) (hd := (by decide +kernel : decode cX11_livesTold 36 = .ok (.ifCond .eq 40, 3)))) (
   sndC (sd_aload_n (hi := rfl) (hd := (by decide +kernel : decode cX11_livesTold 39 = .ok (.aload_n 0, 1)))) (
   sndC (sd_iload_n (hi := rfl) (hd := (by decide +kernel : decode cX11_livesTold 40 = .ok (.iload_n 2, 1)))) (
   sndC (sd_iload (hd := (by decide +kernel : decode cX11_livesTold 41 = .ok (.iload 8, 2)))) (
   sndC (sd_iload (hd := (by decide +kernel : decode cX11_livesTold 43 = .ok (.iload 6, 2)))) (
   sndC (sd_aload_n (hi := rfl) (hd := (by decide +kernel : decode cX11_livesTold 48 = .ok (.aload_n 0, 1)))) (
   sndC (sd_get (C := RX11) (T := TX11) (N := 41) (hc := rfl) (hin0 := iX11) (hk := by decide) (hlink := w_1054) (hd := (by decide +kernel : decode cX11_livesTold 49 = .ok (.getfield 69, 3)))) (
   sndC (sd_bipush (hd := (by decide +kernel : decode cX11_livesTold 52 = .ok (.bipush 40, 2))) (hv := by decide)) (
   sndC (sd_iload_n (hi := rfl) (hd := (by decide +kernel : decode cX11_livesTold 54 = .ok (.iload_n 1, 1)))) (
   sndC (sd_imul (hd := (by decide +kernel : decode cX11_livesTold 55 = .ok (.imul, 1)))) (
   sndC (sd_iload (hd := (by decide +kernel : decode cX11_livesTold 56 = .ok (.iload 8, 2)))) (
   sndC (sd_iadd (hd := (by decide +kernel : decode cX11_livesTold 58 = .ok (.iadd, 1)))) (
   sndC (sd_iald (hd := (by decide +kernel : decode cX11_livesTold 59 = .ok (.iaload, 1)))) (
   sndC (sd_cmp_ne (ht := by decide) (hd := (by decide +kernel : decode cX11_livesTold 60 = .ok (.if_icmp .ne 7, 3)))) (
   sndC (sd_iconst (hd := (by decide +kernel : decode cX11_livesTold 63 = .ok (.iconst 1, 1))) (hv := by decide)) (
   sndC (sd_goto (ht := by decide) (hd := (by decide +kernel : decode cX11_livesTold 64 = .ok (.goto 4, 3)))) (
   sndC (sd_iconst (hd := (by decide +kernel : decode cX11_livesTold 67 = .ok (.iconst 0, 1))) (hv := by decide)) (
   sndC (sd_istore (hd := (by decide +kernel : decode cX11_livesTold 68 = .ok (.istore 7, 2)))) (
   sndC (sd_iinc (hv := by decide) (hd := (by decide +kernel : decode cX11_livesTold 70 = .ok (.iinc 8 1, 3)))) (
   sndC (sd_goto (ht := by decide) (hd := (by decide +kernel : decode cX11_livesTold 73 = .ok (.goto (-46), 3)))) (
   sndC (sd_iload (hd := (by decide +kernel : decode cX11_livesTold 76 = .ok (.iload 7, 2)))) (
   sndC (sd_if_eq (ht := by decide) (hd := (by decide +kernel : decode cX11_livesTold 78 = .ok (.ifCond .eq 23, 3)))) (
   sndC (sd_iinc (hv := by decide) (hd := (by decide +kernel : decode cX11_livesTold 81 = .ok (.iinc 4 1, 3)))) (
   sndC (sd_iload (hd := (by decide +kernel : decode cX11_livesTold 84 = .ok (.iload 5, 2)))) (
   sndC (sd_if_ne (ht := by decide) (hd := (by decide +kernel : decode cX11_livesTold 86 = .ok (.ifCond .ne 11, 3)))) (
   sndC (sd_iload (hd := (by decide +kernel : decode cX11_livesTold 89 = .ok (.iload 6, 2)))) (
   sndC (sd_goto (ht := by decide) (hd := (by decide +kernel : decode cX11_livesTold 94 = .ok (.goto 5, 3)))) (
   sndC (sd_iload (hd := (by decide +kernel : decode cX11_livesTold 97 = .ok (.iload 5, 2)))) (
   sndC (sd_istore (hd := (by decide +kernel : decode cX11_livesTold 99 = .ok (.istore 5, 2)))) (
   sndC (sd_iinc (hv := by decide) (hd := (by decide +kernel : decode cX11_livesTold 101 = .ok (.iinc 6 1, 3)))) (
   sndC (sd_goto (ht := by decide) (hd := (by decide +kernel : decode cX11_livesTold 104 = .ok (.goto (-91), 3)))) (
   sndC (sd_iload_n (hi := rfl) (hd := (by decide +kernel : decode cX11_livesTold 107 = .ok (.iload_n 3, 1)))) (
   sndC (sd_if_eq (ht := by decide) (hd := (by decide +kernel : decode cX11_livesTold 108 = .ok (.ifCond .eq 8, 3)))) (
   sndC (sd_iload (hd := (by decide +kernel : decode cX11_livesTold 111 = .ok (.iload 4, 2)))) (
   sndC (sd_goto (ht := by decide) (hd := (by decide +kernel : decode cX11_livesTold 113 = .ok (.goto 5, 3)))) (
   sndC (sd_iload (hd := (by decide +kernel : decode cX11_livesTold 116 = .ok (.iload 5, 2)))) (
   sndN))))))))))))))))))))))))))))))))))))))))))))))))))))))⟩
theorem kX11_livesTold_1 : CallAt mX11_livesTold 1 0 mX11_tables 0 := ⟨by decide +kernel, ⟨_, (by decide +kernel : decode cX11_livesTold 1 = .ok (.invokevirtual 362, 3)), w_1414, w_1416, w_101⟩⟩
theorem kX11_livesTold_45 : CallAt mX11_livesTold 45 0 mX11_saysBy 3 := ⟨by decide +kernel, ⟨_, (by decide +kernel : decode cX11_livesTold 45 = .ok (.invokevirtual 368, 3)), w_1425, w_1427, w_103⟩⟩
theorem kX11_livesTold_91 : CallAt mX11_livesTold 91 1 mX11_digits 1 := ⟨by decide +kernel, ⟨_, (by decide +kernel : decode cX11_livesTold 91 = .ok (.invokestatic 397, 3)), w_1471, w_1472⟩⟩

set_option maxRecDepth 20000 in
theorem GX11_tells : Good mX11_tells := ⟨by decide +kernel, List.mem_of_getElem? (i := 1510) (by decide +kernel), inX11, ⟨by decide +kernel, by decide +kernel⟩, by decide, show ∀ q ∈ tX11_tells, Snd mX11_tells q.1 q.2 from
  sndC (sd_iload_n (hi := rfl) (hd := (by decide +kernel : decode cX11_tells 0 = .ok (.iload_n 1, 1)))) (
   sndC (sd_if_eq (ht := by decide) (hd := (by decide +kernel : decode cX11_tells 4 = .ok (.ifCond .eq 23, 3)))) (
   sndC (sd_aload_n (hi := rfl) (hd := (by decide +kernel : decode cX11_tells 7 = .ok (.aload_n 0, 1)))) (
   sndC (sd_iload_n (hi := rfl) (hd := (by decide +kernel : decode cX11_tells 8 = .ok (.iload_n 2, 1)))) (
   sndC (sd_if_eq (ht := by decide) (hd := (by decide +kernel : decode cX11_tells 12 = .ok (.ifCond .eq 15, 3)))) (
   sndC (sd_iload_n (hi := rfl) (hd := (by decide +kernel : decode cX11_tells 15 = .ok (.iload_n 3, 1)))) (
   sndC (sd_i2l (hd := (by decide +kernel : decode cX11_tells 16 = .ok (.i2l, 1)))) (
   sndC (sd_lconst (hd := (by decide +kernel : decode cX11_tells 17 = .ok (.lconst 0, 1))) (hv := by decide)) (
   sndC (sd_ldc2 (hw := w_1514) (hd := (by decide +kernel : decode cX11_tells 18 = .ok (.ldc2_w 415, 3)))) (
   sndC (sd_if_ne (ht := by decide) (hd := (by decide +kernel : decode cX11_tells 24 = .ok (.ifCond .ne 6, 3)))) (
   sndC (sd_bipush (hd := (by decide +kernel : decode cX11_tells 27 = .ok (.bipush (-2), 2))) (hv := by decide)) (
   sndC (sd_aload_n (hi := rfl) (hd := (by decide +kernel : decode cX11_tells 30 = .ok (.aload_n 0, 1)))) (
   sndC (sd_get (C := RX11) (T := TX11) (N := 41) (hc := rfl) (hin0 := iX11) (hk := by decide) (hlink := w_1051) (hd := (by decide +kernel : decode cX11_tells 31 = .ok (.getfield 59, 3)))) (
   sndC (sd_iload_n (hi := rfl) (hd := (by decide +kernel : decode cX11_tells 34 = .ok (.iload_n 1, 1)))) (
   sndC (sd_zald (hd := (by decide +kernel : decode cX11_tells 35 = .ok (.baload, 1)))) (
   sndC (sd_if_ne (ht := by decide) (hd := (by decide +kernel : decode cX11_tells 36 = .ok (.ifCond .ne 6, 3)))) (
   sndC (sd_bipush (hd := (by decide +kernel : decode cX11_tells 39 = .ok (.bipush (-11), 2))) (hv := by decide)) (
   sndC (sd_aload_n (hi := rfl) (hd := (by decide +kernel : decode cX11_tells 42 = .ok (.aload_n 0, 1)))) (
   sndC (sd_get (C := RX11) (T := TX11) (N := 41) (hc := rfl) (hin0 := iX11) (hk := by decide) (hlink := w_1053) (hd := (by decide +kernel : decode cX11_tells 43 = .ok (.getfield 66, 3)))) (
   sndC (sd_iload_n (hi := rfl) (hd := (by decide +kernel : decode cX11_tells 46 = .ok (.iload_n 1, 1)))) (
   sndC (sd_iald (hd := (by decide +kernel : decode cX11_tells 47 = .ok (.iaload, 1)))) (
   sndC (sd_bipush (hd := (by decide +kernel : decode cX11_tells 48 = .ok (.bipush 6, 2))) (hv := by decide)) (
   sndC (sd_cmp_eq (ht := by decide) (hd := (by decide +kernel : decode cX11_tells 50 = .ok (.if_icmp .eq 6, 3)))) (
   sndC (sd_bipush (hd := (by decide +kernel : decode cX11_tells 53 = .ok (.bipush (-2), 2))) (hv := by decide)) (
   sndC (sd_iload_n (hi := rfl) (hd := (by decide +kernel : decode cX11_tells 56 = .ok (.iload_n 3, 1)))) (
   sndC (sd_iconst (hd := (by decide +kernel : decode cX11_tells 57 = .ok (.iconst 3, 1))) (hv := by decide)) (
   sndC (sd_cmp_ge (ht := by decide) (hd := (by decide +kernel : decode cX11_tells 58 = .ok (.if_icmp .ge 33, 3)))) (
   sndC (sd_iload_n (hi := rfl) (hd := (by decide +kernel : decode cX11_tells 61 = .ok (.iload_n 3, 1)))) (
   sndC (sd_if_ne (ht := by decide) (hd := (by decide +kernel : decode cX11_tells 62 = .ok (.ifCond .ne 12, 3)))) (
   sndC (sd_aload_n (hi := rfl) (hd := (by decide +kernel : decode cX11_tells 65 = .ok (.aload_n 0, 1)))) (
   sndC (sd_iload_n (hi := rfl) (hd := (by decide +kernel : decode cX11_tells 66 = .ok (.iload_n 1, 1)))) (
   sndC (sd_iload_n (hi := rfl) (hd := (by decide +kernel : decode cX11_tells 67 = .ok (.iload_n 2, 1)))) (
   sndC (sd_goto (ht := by decide) (hd := (by decide +kernel : decode cX11_tells 71 = .ok (.goto 19, 3)))) (
   sndC (sd_aload_n (hi := rfl) (hd := (by decide +kernel : decode cX11_tells 74 = .ok (.aload_n 0, 1)))) (
   sndC (sd_iload_n (hi := rfl) (hd := (by decide +kernel : decode cX11_tells 75 = .ok (.iload_n 1, 1)))) (
   sndC (sd_iload_n (hi := rfl) (hd := (by decide +kernel : decode cX11_tells 76 = .ok (.iload_n 2, 1)))) (
   sndC (sd_iload_n (hi := rfl) (hd := (by decide +kernel : decode cX11_tells 77 = .ok (.iload_n 3, 1)))) (
   sndC (sd_iconst (hd := (by decide +kernel : decode cX11_tells 78 = .ok (.iconst 1, 1))) (hv := by decide)) (
   sndC (sd_cmp_ne (ht := by decide) (hd := (by decide +kernel : decode cX11_tells 79 = .ok (.if_icmp .ne 7, 3)))) (
   sndC (sd_iconst (hd := (by decide +kernel : decode cX11_tells 82 = .ok (.iconst 1, 1))) (hv := by decide)) (
   sndC (sd_goto (ht := by decide) (hd := (by decide +kernel : decode cX11_tells 83 = .ok (.goto 4, 3)))) (
   sndC (sd_iconst (hd := (by decide +kernel : decode cX11_tells 86 = .ok (.iconst 0, 1))) (hv := by decide)) (
   sndC (sd_iload_n (hi := rfl) (hd := (by decide +kernel : decode cX11_tells 91 = .ok (.iload_n 3, 1)))) (
   sndC (sd_iconst (hd := (by decide +kernel : decode cX11_tells 92 = .ok (.iconst 3, 1))) (hv := by decide)) (
   sndC (sd_cmp_ne (ht := by decide) (hd := (by decide +kernel : decode cX11_tells 93 = .ok (.if_icmp .ne 7, 3)))) (
   sndC (sd_iconst (hd := (by decide +kernel : decode cX11_tells 96 = .ok (.iconst 5, 1))) (hv := by decide)) (
   sndC (sd_goto (ht := by decide) (hd := (by decide +kernel : decode cX11_tells 97 = .ok (.goto 24, 3)))) (
   sndC (sd_iload_n (hi := rfl) (hd := (by decide +kernel : decode cX11_tells 100 = .ok (.iload_n 3, 1)))) (
   sndC (sd_iconst (hd := (by decide +kernel : decode cX11_tells 101 = .ok (.iconst 4, 1))) (hv := by decide)) (
   sndC (sd_cmp_ne (ht := by decide) (hd := (by decide +kernel : decode cX11_tells 102 = .ok (.if_icmp .ne 7, 3)))) (
   sndC (sd_iconst (hd := (by decide +kernel : decode cX11_tells 105 = .ok (.iconst 2, 1))) (hv := by decide)) (
   sndC (sd_goto (ht := by decide) (hd := (by decide +kernel : decode cX11_tells 106 = .ok (.goto 15, 3)))) (
   sndC (sd_iload_n (hi := rfl) (hd := (by decide +kernel : decode cX11_tells 109 = .ok (.iload_n 3, 1)))) (
   sndC (sd_bipush (hd := (by decide +kernel : decode cX11_tells 110 = .ok (.bipush 7, 2))) (hv := by decide)) (
   sndC (sd_cmp_ge (ht := by decide) (hd := (by decide +kernel : decode cX11_tells 112 = .ok (.if_icmp .ge 7, 3)))) (
   sndC (sd_iconst (hd := (by decide +kernel : decode cX11_tells 115 = .ok (.iconst 3, 1))) (hv := by decide)) (
   sndC (sd_goto (ht := by decide) (hd := (by decide +kernel : decode cX11_tells 116 = .ok (.goto 5, 3)))) (
   sndC (sd_bipush (hd := (by decide +kernel : decode cX11_tells 119 = .ok (.bipush 6, 2))) (hv := by decide)) (
   sndC (sd_istore (hd := (by decide +kernel : decode cX11_tells 121 = .ok (.istore 4, 2)))) (
   sndC (sd_iload (hd := (by decide +kernel : decode cX11_tells 123 = .ok (.iload 4, 2)))) (
   sndC (sd_bipush (hd := (by decide +kernel : decode cX11_tells 125 = .ok (.bipush 6, 2))) (hv := by decide)) (
   sndC (sd_cmp_ne (ht := by decide) (hd := (by decide +kernel : decode cX11_tells 127 = .ok (.if_icmp .ne 10, 3)))) (
   sndC (sd_aload_n (hi := rfl) (hd := (by decide +kernel : decode cX11_tells 130 = .ok (.aload_n 0, 1)))) (
   sndC (sd_get (C := RX11) (T := TX11) (N := 41) (hc := rfl) (hin0 := iX11) (hk := by decide) (hlink := w_1018) (hd := (by decide +kernel : decode cX11_tells 131 = .ok (.getfield 113, 3)))) (
   sndC (sd_goto (ht := by decide) (hd := (by decide +kernel : decode cX11_tells 134 = .ok (.goto 10, 3)))) (
   sndC (sd_aload_n (hi := rfl) (hd := (by decide +kernel : decode cX11_tells 137 = .ok (.aload_n 0, 1)))) (
   sndC (sd_iload_n (hi := rfl) (hd := (by decide +kernel : decode cX11_tells 138 = .ok (.iload_n 2, 1)))) (
   sndC (sd_iload (hd := (by decide +kernel : decode cX11_tells 139 = .ok (.iload 4, 2)))) (
   sndC (sd_istore (hd := (by decide +kernel : decode cX11_tells 144 = .ok (.istore 5, 2)))) (
   sndC (sd_iload (hd := (by decide +kernel : decode cX11_tells 146 = .ok (.iload 4, 2)))) (
   sndC (sd_bipush (hd := (by decide +kernel : decode cX11_tells 148 = .ok (.bipush 6, 2))) (hv := by decide)) (
   sndC (sd_cmp_ne (ht := by decide) (hd := (by decide +kernel : decode cX11_tells 150 = .ok (.if_icmp .ne 12, 3)))) (
   sndC (sd_aload_n (hi := rfl) (hd := (by decide +kernel : decode cX11_tells 153 = .ok (.aload_n 0, 1)))) (
   sndC (sd_get (C := RX11) (T := TX11) (N := 41) (hc := rfl) (hin0 := iX11) (hk := by decide) (hlink := w_1017) (hd := (by decide +kernel : decode cX11_tells 154 = .ok (.getfield 76, 3)))) (
   sndC (sd_iconst (hd := (by decide +kernel : decode cX11_tells 157 = .ok (.iconst 1, 1))) (hv := by decide)) (
   sndC (sd_isub (hd := (by decide +kernel : decode cX11_tells 158 = .ok (.isub, 1)))) (
   sndC (sd_goto (ht := by decide) (hd := (by decide +kernel : decode cX11_tells 159 = .ok (.goto 18, 3)))) (
   sndC (sd_iload (hd := (by decide +kernel : decode cX11_tells 162 = .ok (.iload 4, 2)))) (
   sndC (sd_iconst (hd := (by decide +kernel : decode cX11_tells 164 = .ok (.iconst 5, 1))) (hv := by decide)) (
   sndC (sd_cmp_ne (ht := by decide) (hd := (by decide +kernel : decode cX11_tells 165 = .ok (.if_icmp .ne 7, 3)))) (
   sndC (sd_iconst (hd := (by decide +kernel : decode cX11_tells 168 = .ok (.iconst 5, 1))) (hv := by decide)) (
   sndC (sd_goto (ht := by decide) (hd := (by decide +kernel : decode cX11_tells 169 = .ok (.goto 8, 3)))) (
   sndC (sd_iload (hd := (by decide +kernel : decode cX11_tells 172 = .ok (.iload 4, 2)))) (
   sndC (sd_istore (hd := (by decide +kernel : decode cX11_tells 177 = .ok (.istore 6, 2)))) (
   sndC (sd_iconst (hd := (by decide +kernel : decode cX11_tells 179 = .ok (.iconst 0, 1))) (hv := by decide)) (
   sndC (sd_istore (hd := (by decide +kernel : decode cX11_tells 180 = .ok (.istore 7, 2)))) (
   sndC (sd_iconst (hd := (by decide +kernel : decode cX11_tells 182 = .ok (.iconst 0, 1))) (hv := by decide)) (
   sndC (sd_istore (hd := (by decide +kernel : decode cX11_tells 183 = .ok (.istore 8, 2)))) (
   sndC (sd_iconst (hd := (by decide +kernel : decode cX11_tells 185 = .ok (.iconst (-1), 1))) (hv := by decide)) (
   sndC (sd_istore (hd := (by decide +kernel : decode cX11_tells 186 = .ok (.istore 9, 2)))) (
   sndC (sd_iload (hd := (by decide +kernel : decode cX11_tells 188 = .ok (.iload 6, 2)))) (
   sndC (sd_istore (hd := (by decide +kernel : decode cX11_tells 190 = .ok (.istore 10, 2)))) (
   sndC (sd_iload (hd := (by decide +kernel : decode cX11_tells 192 = .ok (.iload 10, 2)))) (
   sndC (sd_if_lt (ht := by decide) (hd := (by decide +kernel : decode cX11_tells 194 = .ok (.ifCond .lt 54, 3)))) (
   sndC (sd_aload_n (hi := rfl) (hd := (by decide +kernel : decode cX11_tells 197 = .ok (.aload_n 0, 1)))) (
   sndC (sd_iload (hd := (by decide +kernel : decode cX11_tells 198 = .ok (.iload 4, 2)))) (
   sndC (sd_iload_n (hi := rfl) (hd := (by decide +kernel : decode cX11_tells 200 = .ok (.iload_n 2, 1)))) (
   sndC (sd_iload (hd := (by decide +kernel : decode cX11_tells 201 = .ok (.iload 10, 2)))) (
   sndC (sd_aload_n (hi := rfl) (hd := (by decide +kernel : decode cX11_tells 206 = .ok (.aload_n 0, 1)))) (
   sndC (sd_iload_n (hi := rfl) (hd := (by decide +kernel : decode cX11_tells 207 = .ok (.iload_n 1, 1)))) (
   sndC (sd_iload_n (hi := rfl) (hd := (by decide +kernel : decode cX11_tells 208 = .ok (.iload_n 2, 1)))) (
   sndC (sd_iconst (hd := (by decide +kernel : decode cX11_tells 212 = .ok (.iconst (-1), 1))) (hv := by decide)) (
   sndC (sd_cmp_ne (ht := by decide) (hd := (by decide +kernel : decode cX11_tells 213 = .ok (.if_icmp .ne 29, 3)))) (
   sndC (sd_iload (hd := (by decide +kernel : decode cX11_tells 216 = .ok (.iload 7, 2)))) (
   sndC (sd_iload (hd := (by decide +kernel : decode cX11_tells 218 = .ok (.iload 4, 2)))) (
   sndC (sd_iconst (hd := (by decide +kernel : decode cX11_tells 220 = .ok (.iconst 3, 1))) (hv := by decide)) (
   sndC (sd_cmp_ne (ht := by decide) (hd := (by decide +kernel : decode cX11_tells 221 = .ok (.if_icmp .ne 7, 3)))) (
   sndC (sd_iconst (hd := (by decide +kernel : decode cX11_tells 224 = .ok (.iconst 0, 1))) (hv := by decide)) (
   sndC (sd_goto (ht := by decide) (hd := (by decide +kernel : decode cX11_tells 225 = .ok (.goto 7, 3)))) (
   sndC (sd_iconst (hd := (by decide +kernel : decode cX11_tells 228 = .ok (.iconst 1, 1))) (hv := by decide)) (
   sndC (sd_iload (hd := (by decide +kernel : decode cX11_tells 229 = .ok (.iload 10, 2)))) (
   sndC (sd_ishl (hd := (by decide +kernel : decode cX11_tells 231 = .ok (.ishl, 1)))) (
   sndC (sd_ior (hd := (by decide +kernel : decode cX11_tells 232 = .ok (.ior, 1)))) (
   sndC (sd_istore (hd := (by decide +kernel : decode cX11_tells 233 = .ok (.istore 7, 2)))) (
   sndC (sd_iinc (hv := by decide) (hd := (by decide +kernel : decode cX11_tells 235 = .ok (.iinc 8 1, 3)))) (
   sndC (sd_iload (hd := (by decide +kernel : decode cX11_tells 238 = .ok (.iload 10, 2)))) (
   sndC (sd_istore (hd := (by decide +kernel : decode cX11_tells 240 = .ok (.istore 9, 2)))) (
   sndC (sd_iinc (hv := by decide) (hd := (by decide +kernel : decode cX11_tells 242 = .ok (.iinc 10 (-1), 3)))) (
   sndC (sd_goto (ht := by decide) (hd := (by decide +kernel : decode cX11_tells 245 = .ok (.goto (-53), 3)))) (
   sndC (sd_aload_n (hi := rfl) (hd := (by decide +kernel : decode cX11_tells 248 = .ok (.aload_n 0, 1)))) (
   sndC (sd_iload (hd := (by decide +kernel : decode cX11_tells 249 = .ok (.iload 4, 2)))) (
   sndC (sd_iload_n (hi := rfl) (hd := (by decide +kernel : decode cX11_tells 251 = .ok (.iload_n 2, 1)))) (
   sndC (sd_iload (hd := (by decide +kernel : decode cX11_tells 252 = .ok (.iload 5, 2)))) (
   sndC (sd_iload_n (hi := rfl) (hd := (by decide +kernel : decode cX11_tells 257 = .ok (.iload_n 3, 1)))) (
   sndC (sd_iconst (hd := (by decide +kernel : decode cX11_tells 258 = .ok (.iconst 5, 1))) (hv := by decide)) (
   sndC (sd_cmp_ne (ht := by decide) (hd := (by decide +kernel : decode cX11_tells 259 = .ok (.if_icmp .ne 8, 3)))) (
   sndC (sd_iload (hd := (by decide +kernel : decode cX11_tells 262 = .ok (.iload 8, 2)))) (
   sndC (sd_goto (ht := by decide) (hd := (by decide +kernel : decode cX11_tells 264 = .ok (.goto 16, 3)))) (
   sndC (sd_iload_n (hi := rfl) (hd := (by decide +kernel : decode cX11_tells 267 = .ok (.iload_n 3, 1)))) (
   sndC (sd_bipush (hd := (by decide +kernel : decode cX11_tells 268 = .ok (.bipush 6, 2))) (hv := by decide)) (
   sndC (sd_cmp_ne (ht := by decide) (hd := (by decide +kernel : decode cX11_tells 270 = .ok (.if_icmp .ne 8, 3)))) (
   sndC (sd_iload (hd := (by decide +kernel : decode cX11_tells 273 = .ok (.iload 9, 2)))) (
   sndC (sd_goto (ht := by decide) (hd := (by decide +kernel : decode cX11_tells 275 = .ok (.goto 5, 3)))) (
   sndC (sd_iload (hd := (by decide +kernel : decode cX11_tells 278 = .ok (.iload 7, 2)))) (
   sndN))))))))))))))))))))))))))))))))))))))))))))))))))))))))))))))))))))))))))))))))))))))))))))))))))))))))))))))))))))))))))))))))))))))⟩
theorem kX11_tells_1 : CallAt mX11_tells 1 1 mX11_isSheet 1 := ⟨by decide +kernel, ⟨_, (by decide +kernel : decode cX11_tells 1 = .ok (.invokestatic 412, 3)), w_1511, w_1512⟩⟩
theorem kX11_tells_9 : CallAt mX11_tells 9 0 mX11_isWitness 1 := ⟨by decide +kernel, ⟨_, (by decide +kernel : decode cX11_tells 9 = .ok (.invokevirtual 92, 3)), w_1155, w_1157, w_48⟩⟩
theorem kX11_tells_21 : CallAt mX11_tells 21 1 mX11_in 3 := ⟨by decide +kernel, ⟨_, (by decide +kernel : decode cX11_tells 21 = .ok (.invokestatic 82, 3)), w_1144, w_1145⟩⟩
theorem kX11_tells_68 : CallAt mX11_tells 68 0 mX11_firstOther 2 := ⟨by decide +kernel, ⟨_, (by decide +kernel : decode cX11_tells 68 = .ok (.invokevirtual 417, 3)), w_1515, w_1517, w_114⟩⟩
theorem kX11_tells_87 : CallAt mX11_tells 87 0 mX11_livesTold 3 := ⟨by decide +kernel, ⟨_, (by decide +kernel : decode cX11_tells 87 = .ok (.invokevirtual 420, 3)), w_1519, w_1521, w_115⟩⟩
theorem kX11_tells_141 : CallAt mX11_tells 141 0 mX11_told 2 := ⟨by decide +kernel, ⟨_, (by decide +kernel : decode cX11_tells 141 = .ok (.invokevirtual 105, 3)), w_1162, w_1163, w_1164⟩⟩
theorem kX11_tells_174 : CallAt mX11_tells 174 1 mX11_mostOf 1 := ⟨by decide +kernel, ⟨_, (by decide +kernel : decode cX11_tells 174 = .ok (.invokestatic 101, 3)), w_1159, w_1160⟩⟩
theorem kX11_tells_203 : CallAt mX11_tells 203 0 mX11_lays 3 := ⟨by decide +kernel, ⟨_, (by decide +kernel : decode cX11_tells 203 = .ok (.invokevirtual 109, 3)), w_1381, w_1383, w_99⟩⟩
theorem kX11_tells_209 : CallAt mX11_tells 209 0 mX11_firstOther 2 := ⟨by decide +kernel, ⟨_, (by decide +kernel : decode cX11_tells 209 = .ok (.invokevirtual 417, 3)), w_1515, w_1517, w_114⟩⟩
theorem kX11_tells_254 : CallAt mX11_tells 254 0 mX11_lays 3 := ⟨by decide +kernel, ⟨_, (by decide +kernel : decode cX11_tells 254 = .ok (.invokevirtual 109, 3)), w_1381, w_1383, w_99⟩⟩

set_option maxRecDepth 20000 in
theorem GX11_film : Good mX11_film := ⟨by decide +kernel, List.mem_of_getElem? (i := 1526) (by decide +kernel), inX11, ⟨by decide +kernel, by decide +kernel⟩, by decide, show ∀ q ∈ tX11_film, Snd mX11_film q.1 q.2 from
  sndC (sd_iload_n (hi := rfl) (hd := (by decide +kernel : decode cX11_film 0 = .ok (.iload_n 1, 1)))) (
   sndC (sd_if_eq (ht := by decide) (hd := (by decide +kernel : decode cX11_film 4 = .ok (.ifCond .eq 11, 3)))) (
   sndC (sd_aload_n (hi := rfl) (hd := (by decide +kernel : decode cX11_film 7 = .ok (.aload_n 0, 1)))) (
   sndC (sd_iload_n (hi := rfl) (hd := (by decide +kernel : decode cX11_film 8 = .ok (.iload_n 2, 1)))) (
   sndC (sd_if_ne (ht := by decide) (hd := (by decide +kernel : decode cX11_film 12 = .ok (.ifCond .ne 6, 3)))) (
   sndC (sd_bipush (hd := (by decide +kernel : decode cX11_film 15 = .ok (.bipush (-2), 2))) (hv := by decide)) (
   sndC (sd_aload_n (hi := rfl) (hd := (by decide +kernel : decode cX11_film 18 = .ok (.aload_n 0, 1)))) (
   sndC (sd_iload_n (hi := rfl) (hd := (by decide +kernel : decode cX11_film 19 = .ok (.iload_n 1, 1)))) (
   sndC (sd_iconst (hd := (by decide +kernel : decode cX11_film 20 = .ok (.iconst 0, 1))) (hv := by decide)) (
   sndC (sd_bipush (hd := (by decide +kernel : decode cX11_film 21 = .ok (.bipush 6, 2))) (hv := by decide)) (
   sndC (sd_pop (hd := (by decide +kernel : decode cX11_film 26 = .ok (.pop, 1)))) (
   sndC (sd_iconst (hd := (by decide +kernel : decode cX11_film 27 = .ok (.iconst 0, 1))) (hv := by decide)) (
   sndC (sd_istore_n (hi := rfl) (hd := (by decide +kernel : decode cX11_film 28 = .ok (.istore_n 3, 1)))) (
   sndC (sd_iconst (hd := (by decide +kernel : decode cX11_film 29 = .ok (.iconst 0, 1))) (hv := by decide)) (
   sndC (sd_istore (hd := (by decide +kernel : decode cX11_film 30 = .ok (.istore 4, 2)))) (
   sndC (sd_iload (hd := (by decide +kernel : decode cX11_film 32 = .ok (.iload 4, 2)))) (
   sndC (sd_bipush (hd := (by decide +kernel : decode cX11_film 34 = .ok (.bipush 6, 2))) (hv := by decide)) (
   sndC (sd_cmp_ge (ht := by decide) (hd := (by decide +kernel : decode cX11_film 36 = .ok (.if_icmp .ge 52, 3)))) (
   sndC (sd_aload_n (hi := rfl) (hd := (by decide +kernel : decode cX11_film 39 = .ok (.aload_n 0, 1)))) (
   sndC (sd_get (C := RX11) (T := TX11) (N := 41) (hc := rfl) (hin0 := iX11) (hk := by decide) (hlink := w_1054) (hd := (by decide +kernel : decode cX11_film 40 = .ok (.getfield 69, 3)))) (
   sndC (sd_bipush (hd := (by decide +kernel : decode cX11_film 43 = .ok (.bipush 40, 2))) (hv := by decide)) (
   sndC (sd_iload_n (hi := rfl) (hd := (by decide +kernel : decode cX11_film 45 = .ok (.iload_n 1, 1)))) (
   sndC (sd_imul (hd := (by decide +kernel : decode cX11_film 46 = .ok (.imul, 1)))) (
   sndC (sd_iload (hd := (by decide +kernel : decode cX11_film 47 = .ok (.iload 4, 2)))) (
   sndC (sd_iadd (hd := (by decide +kernel : decode cX11_film 49 = .ok (.iadd, 1)))) (
   sndC (sd_aload_n (hi := rfl) (hd := (by decide +kernel : decode cX11_film 50 = .ok (.aload_n 0, 1)))) (
   sndC (sd_iload_n (hi := rfl) (hd := (by decide +kernel : decode cX11_film 51 = .ok (.iload_n 2, 1)))) (
   sndC (sd_iload (hd := (by decide +kernel : decode cX11_film 52 = .ok (.iload 4, 2)))) (
   sndC (sd_iast (hd := (by decide +kernel : decode cX11_film 57 = .ok (.iastore, 1)))) (
   sndC (sd_iload_n (hi := rfl) (hd := (by decide +kernel : decode cX11_film 58 = .ok (.iload_n 3, 1)))) (
   sndC (sd_aload_n (hi := rfl) (hd := (by decide +kernel : decode cX11_film 59 = .ok (.aload_n 0, 1)))) (
   sndC (sd_get (C := RX11) (T := TX11) (N := 41) (hc := rfl) (hin0 := iX11) (hk := by decide) (hlink := w_1054) (hd := (by decide +kernel : decode cX11_film 60 = .ok (.getfield 69, 3)))) (
   sndC (sd_bipush (hd := (by decide +kernel : decode cX11_film 63 = .ok (.bipush 40, 2))) (hv := by decide)) (
   sndC (sd_iload_n (hi := rfl) (hd := (by decide +kernel : decode cX11_film 65 = .ok (.iload_n 1, 1)))) (
   sndC (sd_imul (hd := (by decide +kernel : decode cX11_film 66 = .ok (.imul, 1)))) (
   sndC (sd_iload (hd := (by decide +kernel : decode cX11_film 67 = .ok (.iload 4, 2)))) (
   sndC (sd_iadd (hd := (by decide +kernel : decode cX11_film 69 = .ok (.iadd, 1)))) (
   sndC (sd_iald (hd := (by decide +kernel : decode cX11_film 70 = .ok (.iaload, 1)))) (
   sndC (sd_iconst (hd := (by decide +kernel : decode cX11_film 71 = .ok (.iconst (-1), 1))) (hv := by decide)) (
   sndC (sd_cmp_ne (ht := by decide) (hd := (by decide +kernel : decode cX11_film 72 = .ok (.if_icmp .ne 7, 3)))) (
   sndC (sd_iconst (hd := (by decide +kernel : decode cX11_film 75 = .ok (.iconst 0, 1))) (hv := by decide)) (
   sndC (sd_goto (ht := by decide) (hd := (by decide +kernel : decode cX11_film 76 = .ok (.goto 4, 3)))) (
   sndC (sd_iconst (hd := (by decide +kernel : decode cX11_film 79 = .ok (.iconst 1, 1))) (hv := by decide)) (
   sndC (sd_iadd (hd := (by decide +kernel : decode cX11_film 80 = .ok (.iadd, 1)))) (
   sndC (sd_istore_n (hi := rfl) (hd := (by decide +kernel : decode cX11_film 81 = .ok (.istore_n 3, 1)))) (
   sndC (sd_iinc (hv := by decide) (hd := (by decide +kernel : decode cX11_film 82 = .ok (.iinc 4 1, 3)))) (
   sndC (sd_goto (ht := by decide) (hd := (by decide +kernel : decode cX11_film 85 = .ok (.goto (-53), 3)))) (
   sndC (sd_iload_n (hi := rfl) (hd := (by decide +kernel : decode cX11_film 88 = .ok (.iload_n 3, 1)))) (
   sndN))))))))))))))))))))))))))))))))))))))))))))))))⟩
theorem kX11_film_1 : CallAt mX11_film 1 1 mX11_isSheet 1 := ⟨by decide +kernel, ⟨_, (by decide +kernel : decode cX11_film 1 = .ok (.invokestatic 412, 3)), w_1511, w_1512⟩⟩
theorem kX11_film_9 : CallAt mX11_film 9 0 mX11_isWitness 1 := ⟨by decide +kernel, ⟨_, (by decide +kernel : decode cX11_film 9 = .ok (.invokevirtual 92, 3)), w_1155, w_1157, w_48⟩⟩
theorem kX11_film_23 : CallAt mX11_film 23 0 mX11_sheet 3 := ⟨by decide +kernel, ⟨_, (by decide +kernel : decode cX11_film 23 = .ok (.invokevirtual 424, 3)), w_1527, w_1528, w_1529⟩⟩
theorem kX11_film_54 : CallAt mX11_film 54 0 mX11_saysNow 2 := ⟨by decide +kernel, ⟨_, (by decide +kernel : decode cX11_film 54 = .ok (.invokevirtual 126, 3)), w_1169, w_1171, w_49⟩⟩

set_option maxRecDepth 20000 in
theorem GX11_draws : Good mX11_draws := ⟨by decide +kernel, List.mem_of_getElem? (i := 1540) (by decide +kernel), inX11, ⟨by decide +kernel, by decide +kernel⟩, by decide, show ∀ q ∈ tX11_draws, Snd mX11_draws q.1 q.2 from
  sndC (sd_iload_n (hi := rfl) (hd := (by decide +kernel : decode cX11_draws 0 = .ok (.iload_n 1, 1)))) (
   sndC (sd_istore_n (hi := rfl) (hd := (by decide +kernel : decode cX11_draws 1 = .ok (.istore_n 2, 1)))) (
   sndC (sd_iconst (hd := (by decide +kernel : decode cX11_draws 2 = .ok (.iconst 0, 1))) (hv := by decide)) (
   sndC (sd_istore_n (hi := rfl) (hd := (by decide +kernel : decode cX11_draws 3 = .ok (.istore_n 3, 1)))) (
   sndC (sd_iload_n (hi := rfl) (hd := (by decide +kernel : decode cX11_draws 4 = .ok (.iload_n 3, 1)))) (
   sndC (sd_bipush (hd := (by decide +kernel : decode cX11_draws 5 = .ok (.bipush 6, 2))) (hv := by decide)) (
   sndC (sd_cmp_ge (ht := by decide) (hd := (by decide +kernel : decode cX11_draws 7 = .ok (.if_icmp .ge 43, 3)))) (
   sndC (sd_aload_n (hi := rfl) (hd := (by decide +kernel : decode cX11_draws 10 = .ok (.aload_n 0, 1)))) (
   sndC (sd_get (C := RX11) (T := TX11) (N := 41) (hc := rfl) (hin0 := iX11) (hk := by decide) (hlink := w_1045) (hd := (by decide +kernel : decode cX11_draws 11 = .ok (.getfield 47, 3)))) (
   sndC (sd_iload_n (hi := rfl) (hd := (by decide +kernel : decode cX11_draws 14 = .ok (.iload_n 3, 1)))) (
   sndC (sd_aload_n (hi := rfl) (hd := (by decide +kernel : decode cX11_draws 15 = .ok (.aload_n 0, 1)))) (
   sndC (sd_get (C := RX11) (T := TX11) (N := 41) (hc := rfl) (hin0 := iX11) (hk := by decide) (hlink := w_1022) (hd := (by decide +kernel : decode cX11_draws 16 = .ok (.getfield 26, 3)))) (
   sndC (sd_iload_n (hi := rfl) (hd := (by decide +kernel : decode cX11_draws 19 = .ok (.iload_n 3, 1)))) (
   sndC (sd_iald (hd := (by decide +kernel : decode cX11_draws 20 = .ok (.iaload, 1)))) (
   sndC (sd_iast (hd := (by decide +kernel : decode cX11_draws 21 = .ok (.iastore, 1)))) (
   sndC (sd_iload_n (hi := rfl) (hd := (by decide +kernel : decode cX11_draws 22 = .ok (.iload_n 2, 1)))) (
   sndC (sd_ldcw (hw := w_1541) (hd := (by decide +kernel : decode cX11_draws 23 = .ok (.ldc_w 427, 3)))) (
   sndC (sd_imul (hd := (by decide +kernel : decode cX11_draws 26 = .ok (.imul, 1)))) (
   sndC (sd_sipush (hd := (by decide +kernel : decode cX11_draws 27 = .ok (.sipush 12345, 3))) (hv := by decide)) (
   sndC (sd_iadd (hd := (by decide +kernel : decode cX11_draws 30 = .ok (.iadd, 1)))) (
   sndC (sd_istore_n (hi := rfl) (hd := (by decide +kernel : decode cX11_draws 31 = .ok (.istore_n 2, 1)))) (
   sndC (sd_aload_n (hi := rfl) (hd := (by decide +kernel : decode cX11_draws 32 = .ok (.aload_n 0, 1)))) (
   sndC (sd_get (C := RX11) (T := TX11) (N := 41) (hc := rfl) (hin0 := iX11) (hk := by decide) (hlink := w_1022) (hd := (by decide +kernel : decode cX11_draws 33 = .ok (.getfield 26, 3)))) (
   sndC (sd_iload_n (hi := rfl) (hd := (by decide +kernel : decode cX11_draws 36 = .ok (.iload_n 3, 1)))) (
   sndC (sd_iload_n (hi := rfl) (hd := (by decide +kernel : decode cX11_draws 37 = .ok (.iload_n 2, 1)))) (
   sndC (sd_bipush (hd := (by decide +kernel : decode cX11_draws 38 = .ok (.bipush 9, 2))) (hv := by decide)) (
   sndC (sd_iushr (hd := (by decide +kernel : decode cX11_draws 40 = .ok (.iushr, 1)))) (
   sndC (sd_iconst (hd := (by decide +kernel : decode cX11_draws 41 = .ok (.iconst 4, 1))) (hv := by decide)) (
   sndC (sd_irem (hd := (by decide +kernel : decode cX11_draws 42 = .ok (.irem, 1)))) (
   sndC (sd_iast (hd := (by decide +kernel : decode cX11_draws 43 = .ok (.iastore, 1)))) (
   sndC (sd_iinc (hv := by decide) (hd := (by decide +kernel : decode cX11_draws 44 = .ok (.iinc 3 1, 3)))) (
   sndC (sd_goto (ht := by decide) (hd := (by decide +kernel : decode cX11_draws 47 = .ok (.goto (-43), 3)))) (
   sndC (sd_aload_n (hi := rfl) (hd := (by decide +kernel : decode cX11_draws 50 = .ok (.aload_n 0, 1)))) (
   sndN)))))))))))))))))))))))))))))))))⟩
theorem kX11_draws_51 : CallAt mX11_draws 51 0 mX11_gathers 0 := ⟨by decide +kernel, ⟨_, (by decide +kernel : decode cX11_draws 51 = .ok (.invokevirtual 378, 3)), w_1410, w_1412, w_100⟩⟩

set_option maxRecDepth 20000 in
theorem GX11_laysBack : Good mX11_laysBack := ⟨by decide +kernel, List.mem_of_getElem? (i := 1545) (by decide +kernel), inX11, ⟨by decide +kernel, by decide +kernel⟩, by decide, show ∀ q ∈ tX11_laysBack, Snd mX11_laysBack q.1 q.2 from
  sndC (sd_iconst (hd := (by decide +kernel : decode cX11_laysBack 0 = .ok (.iconst 0, 1))) (hv := by decide)) (
   sndC (sd_istore_n (hi := rfl) (hd := (by decide +kernel : decode cX11_laysBack 1 = .ok (.istore_n 1, 1)))) (
   sndC (sd_iload_n (hi := rfl) (hd := (by decide +kernel : decode cX11_laysBack 2 = .ok (.iload_n 1, 1)))) (
   sndC (sd_bipush (hd := (by decide +kernel : decode cX11_laysBack 3 = .ok (.bipush 6, 2))) (hv := by decide)) (
   sndC (sd_cmp_ge (ht := by decide) (hd := (by decide +kernel : decode cX11_laysBack 5 = .ok (.if_icmp .ge 21, 3)))) (
   sndC (sd_aload_n (hi := rfl) (hd := (by decide +kernel : decode cX11_laysBack 8 = .ok (.aload_n 0, 1)))) (
   sndC (sd_get (C := RX11) (T := TX11) (N := 41) (hc := rfl) (hin0 := iX11) (hk := by decide) (hlink := w_1022) (hd := (by decide +kernel : decode cX11_laysBack 9 = .ok (.getfield 26, 3)))) (
   sndC (sd_iload_n (hi := rfl) (hd := (by decide +kernel : decode cX11_laysBack 12 = .ok (.iload_n 1, 1)))) (
   sndC (sd_aload_n (hi := rfl) (hd := (by decide +kernel : decode cX11_laysBack 13 = .ok (.aload_n 0, 1)))) (
   sndC (sd_get (C := RX11) (T := TX11) (N := 41) (hc := rfl) (hin0 := iX11) (hk := by decide) (hlink := w_1045) (hd := (by decide +kernel : decode cX11_laysBack 14 = .ok (.getfield 47, 3)))) (
   sndC (sd_iload_n (hi := rfl) (hd := (by decide +kernel : decode cX11_laysBack 17 = .ok (.iload_n 1, 1)))) (
   sndC (sd_iald (hd := (by decide +kernel : decode cX11_laysBack 18 = .ok (.iaload, 1)))) (
   sndC (sd_iast (hd := (by decide +kernel : decode cX11_laysBack 19 = .ok (.iastore, 1)))) (
   sndC (sd_iinc (hv := by decide) (hd := (by decide +kernel : decode cX11_laysBack 20 = .ok (.iinc 1 1, 3)))) (
   sndC (sd_goto (ht := by decide) (hd := (by decide +kernel : decode cX11_laysBack 23 = .ok (.goto (-21), 3)))) (
   sndN)))))))))))))))⟩


set_option maxRecDepth 20000 in
theorem GX11_drawn : Good mX11_drawn := ⟨by decide +kernel, List.mem_of_getElem? (i := 1536) (by decide +kernel), inX11, ⟨by decide +kernel, by decide +kernel⟩, by decide, show ∀ q ∈ tX11_drawn, Snd mX11_drawn q.1 q.2 from
  sndC (sd_aload_n (hi := rfl) (hd := (by decide +kernel : decode cX11_drawn 0 = .ok (.aload_n 0, 1)))) (
   sndC (sd_iload_n (hi := rfl) (hd := (by decide +kernel : decode cX11_drawn 1 = .ok (.iload_n 1, 1)))) (
   sndC (sd_aload_n (hi := rfl) (hd := (by decide +kernel : decode cX11_drawn 5 = .ok (.aload_n 0, 1)))) (
   sndC (sd_aload_n (hi := rfl) (hd := (by decide +kernel : decode cX11_drawn 6 = .ok (.aload_n 0, 1)))) (
   sndC (sd_istore_n (hi := rfl) (hd := (by decide +kernel : decode cX11_drawn 13 = .ok (.istore_n 2, 1)))) (
   sndC (sd_aload_n (hi := rfl) (hd := (by decide +kernel : decode cX11_drawn 14 = .ok (.aload_n 0, 1)))) (
   sndC (sd_iload_n (hi := rfl) (hd := (by decide +kernel : decode cX11_drawn 18 = .ok (.iload_n 2, 1)))) (
   sndN)))))))⟩
theorem kX11_drawn_2 : CallAt mX11_drawn 2 0 mX11_draws 1 := ⟨by decide +kernel, ⟨_, (by decide +kernel : decode cX11_drawn 2 = .ok (.invokevirtual 428, 3)), w_1537, w_1539, w_116⟩⟩
theorem kX11_drawn_7 : CallAt mX11_drawn 7 0 mX11_sentSet 0 := ⟨by decide +kernel, ⟨_, (by decide +kernel : decode cX11_drawn 7 = .ok (.invokevirtual 371, 3)), w_1435, w_1437, w_104⟩⟩
theorem kX11_drawn_10 : CallAt mX11_drawn 10 0 mX11_livesBy 1 := ⟨by decide +kernel, ⟨_, (by decide +kernel : decode cX11_drawn 10 = .ok (.invokevirtual 381, 3)), w_1439, w_1441, w_105⟩⟩
theorem kX11_drawn_15 : CallAt mX11_drawn 15 0 mX11_laysBack 0 := ⟨by decide +kernel, ⟨_, (by decide +kernel : decode cX11_drawn 15 = .ok (.invokevirtual 431, 3)), w_1542, w_1544, w_117⟩⟩

set_option maxRecDepth 20000 in
theorem GX11_chance : Good mX11_chance := ⟨by decide +kernel, List.mem_of_getElem? (i := 1549) (by decide +kernel), inX11, ⟨by decide +kernel, by decide +kernel⟩, by decide, show ∀ q ∈ tX11_chance, Snd mX11_chance q.1 q.2 from
  sndC (sd_iload_n (hi := rfl) (hd := (by decide +kernel : decode cX11_chance 0 = .ok (.iload_n 2, 1)))) (
   sndC (sd_i2l (hd := (by decide +kernel : decode cX11_chance 1 = .ok (.i2l, 1)))) (
   sndC (sd_lconst (hd := (by decide +kernel : decode cX11_chance 2 = .ok (.lconst 1, 1))) (hv := by decide)) (
   sndC (sd_ldc2 (hw := w_1550) (hd := (by decide +kernel : decode cX11_chance 3 = .ok (.ldc2_w 434, 3)))) (
   sndC (sd_if_eq (ht := by decide) (hd := (by decide +kernel : decode cX11_chance 9 = .ok (.ifCond .eq 26, 3)))) (
   sndC (sd_iload_n (hi := rfl) (hd := (by decide +kernel : decode cX11_chance 12 = .ok (.iload_n 3, 1)))) (
   sndC (sd_i2l (hd := (by decide +kernel : decode cX11_chance 13 = .ok (.i2l, 1)))) (
   sndC (sd_lconst (hd := (by decide +kernel : decode cX11_chance 14 = .ok (.lconst 0, 1))) (hv := by decide)) (
   sndC (sd_ldc2 (hw := w_1166) (hd := (by decide +kernel : decode cX11_chance 15 = .ok (.ldc2_w 120, 3)))) (
   sndC (sd_if_eq (ht := by decide) (hd := (by decide +kernel : decode cX11_chance 21 = .ok (.ifCond .eq 14, 3)))) (
   sndC (sd_iload (hd := (by decide +kernel : decode cX11_chance 24 = .ok (.iload 4, 2)))) (
   sndC (sd_i2l (hd := (by decide +kernel : decode cX11_chance 26 = .ok (.i2l, 1)))) (
   sndC (sd_lconst (hd := (by decide +kernel : decode cX11_chance 27 = .ok (.lconst 0, 1))) (hv := by decide)) (
   sndC (sd_lconst (hd := (by decide +kernel : decode cX11_chance 28 = .ok (.lconst 1, 1))) (hv := by decide)) (
   sndC (sd_if_ne (ht := by decide) (hd := (by decide +kernel : decode cX11_chance 32 = .ok (.ifCond .ne 7, 3)))) (
   sndC (sd_ldc2 (hw := w_1551) (hd := (by decide +kernel : decode cX11_chance 35 = .ok (.ldc2_w 436, 3)))) (
   sndC (sd_lconst (hd := (by decide +kernel : decode cX11_chance 39 = .ok (.lconst 0, 1))) (hv := by decide)) (
   sndC (sd_lstore (hd := (by decide +kernel : decode cX11_chance 40 = .ok (.lstore 5, 2)))) (
   sndC (sd_iconst (hd := (by decide +kernel : decode cX11_chance 42 = .ok (.iconst 0, 1))) (hv := by decide)) (
   sndC (sd_istore (hd := (by decide +kernel : decode cX11_chance 43 = .ok (.istore 7, 2)))) (
   sndC (sd_iload (hd := (by decide +kernel : decode cX11_chance 45 = .ok (.iload 7, 2)))) (
   sndC (sd_iload_n (hi := rfl) (hd := (by decide +kernel : decode cX11_chance 47 = .ok (.iload_n 2, 1)))) (
   sndC (sd_cmp_ge (ht := by decide) (hd := (by decide +kernel : decode cX11_chance 48 = .ok (.if_icmp .ge 42, 3)))) (
   sndC (sd_aload_n (hi := rfl) (hd := (by decide +kernel : decode cX11_chance 51 = .ok (.aload_n 0, 1)))) (
   sndC (sd_iload_n (hi := rfl) (hd := (by decide +kernel : decode cX11_chance 52 = .ok (.iload_n 1, 1)))) (
   sndC (sd_iload (hd := (by decide +kernel : decode cX11_chance 53 = .ok (.iload 7, 2)))) (
   sndC (sd_iadd (hd := (by decide +kernel : decode cX11_chance 55 = .ok (.iadd, 1)))) (
   sndC (sd_lload (hd := (by decide +kernel : decode cX11_chance 59 = .ok (.lload 5, 2)))) (
   sndC (sd_aload_n (hi := rfl) (hd := (by decide +kernel : decode cX11_chance 61 = .ok (.aload_n 0, 1)))) (
   sndC (sd_iload_n (hi := rfl) (hd := (by decide +kernel : decode cX11_chance 68 = .ok (.iload_n 3, 1)))) (
   sndC (sd_cmp_lt (ht := by decide) (hd := (by decide +kernel : decode cX11_chance 69 = .ok (.if_icmp .lt 7, 3)))) (
   sndC (sd_lconst (hd := (by decide +kernel : decode cX11_chance 72 = .ok (.lconst 1, 1))) (hv := by decide)) (
   sndC (sd_goto (ht := by decide) (hd := (by decide +kernel : decode cX11_chance 73 = .ok (.goto 4, 3)))) (
   sndC (sd_lconst (hd := (by decide +kernel : decode cX11_chance 76 = .ok (.lconst 0, 1))) (hv := by decide)) (
   sndC (sd_ladd (hd := (by decide +kernel : decode cX11_chance 77 = .ok (.ladd, 1)))) (
   sndC (sd_lstore (hd := (by decide +kernel : decode cX11_chance 78 = .ok (.lstore 5, 2)))) (
   sndC (sd_aload_n (hi := rfl) (hd := (by decide +kernel : decode cX11_chance 80 = .ok (.aload_n 0, 1)))) (
   sndC (sd_iinc (hv := by decide) (hd := (by decide +kernel : decode cX11_chance 84 = .ok (.iinc 7 1, 3)))) (
   sndC (sd_goto (ht := by decide) (hd := (by decide +kernel : decode cX11_chance 87 = .ok (.goto (-42), 3)))) (
   sndC (sd_lload (hd := (by decide +kernel : decode cX11_chance 90 = .ok (.lload 5, 2)))) (
   sndC (sd_lstore (hd := (by decide +kernel : decode cX11_chance 92 = .ok (.lstore 7, 2)))) (
   sndC (sd_iload_n (hi := rfl) (hd := (by decide +kernel : decode cX11_chance 94 = .ok (.iload_n 2, 1)))) (
   sndC (sd_i2l (hd := (by decide +kernel : decode cX11_chance 95 = .ok (.i2l, 1)))) (
   sndC (sd_lstore (hd := (by decide +kernel : decode cX11_chance 96 = .ok (.lstore 9, 2)))) (
   sndC (sd_lload (hd := (by decide +kernel : decode cX11_chance 98 = .ok (.lload 9, 2)))) (
   sndC (sd_lconst (hd := (by decide +kernel : decode cX11_chance 100 = .ok (.lconst 0, 1))) (hv := by decide)) (
   sndC (sd_lcmp (hd := (by decide +kernel : decode cX11_chance 101 = .ok (.lcmp, 1)))) (
   sndC (sd_if_eq (ht := by decide) (hd := (by decide +kernel : decode cX11_chance 102 = .ok (.ifCond .eq 21, 3)))) (
   sndC (sd_lload (hd := (by decide +kernel : decode cX11_chance 105 = .ok (.lload 7, 2)))) (
   sndC (sd_lload (hd := (by decide +kernel : decode cX11_chance 107 = .ok (.lload 9, 2)))) (
   sndC (sd_lrem (hd := (by decide +kernel : decode cX11_chance 109 = .ok (.lrem, 1)))) (
   sndC (sd_lstore (hd := (by decide +kernel : decode cX11_chance 110 = .ok (.lstore 11, 2)))) (
   sndC (sd_lload (hd := (by decide +kernel : decode cX11_chance 112 = .ok (.lload 9, 2)))) (
   sndC (sd_lstore (hd := (by decide +kernel : decode cX11_chance 114 = .ok (.lstore 7, 2)))) (
   sndC (sd_lload (hd := (by decide +kernel : decode cX11_chance 116 = .ok (.lload 11, 2)))) (
   sndC (sd_lstore (hd := (by decide +kernel : decode cX11_chance 118 = .ok (.lstore 9, 2)))) (
   sndC (sd_goto (ht := by decide) (hd := (by decide +kernel : decode cX11_chance 120 = .ok (.goto (-22), 3)))) (
   sndC (sd_iload (hd := (by decide +kernel : decode cX11_chance 123 = .ok (.iload 4, 2)))) (
   sndC (sd_if_ne (ht := by decide) (hd := (by decide +kernel : decode cX11_chance 125 = .ok (.ifCond .ne 11, 3)))) (
   sndC (sd_lload (hd := (by decide +kernel : decode cX11_chance 128 = .ok (.lload 5, 2)))) (
   sndC (sd_lload (hd := (by decide +kernel : decode cX11_chance 130 = .ok (.lload 7, 2)))) (
   sndC (sd_ldiv (hd := (by decide +kernel : decode cX11_chance 132 = .ok (.ldiv, 1)))) (
   sndC (sd_goto (ht := by decide) (hd := (by decide +kernel : decode cX11_chance 133 = .ok (.goto 8, 3)))) (
   sndC (sd_iload_n (hi := rfl) (hd := (by decide +kernel : decode cX11_chance 136 = .ok (.iload_n 2, 1)))) (
   sndC (sd_i2l (hd := (by decide +kernel : decode cX11_chance 137 = .ok (.i2l, 1)))) (
   sndC (sd_lload (hd := (by decide +kernel : decode cX11_chance 138 = .ok (.lload 7, 2)))) (
   sndC (sd_ldiv (hd := (by decide +kernel : decode cX11_chance 140 = .ok (.ldiv, 1)))) (
   sndN)))))))))))))))))))))))))))))))))))))))))))))))))))))))))))))))))))⟩
theorem kX11_chance_6 : CallAt mX11_chance 6 1 mX11_in 3 := ⟨by decide +kernel, ⟨_, (by decide +kernel : decode cX11_chance 6 = .ok (.invokestatic 82, 3)), w_1144, w_1145⟩⟩
theorem kX11_chance_18 : CallAt mX11_chance 18 1 mX11_in 3 := ⟨by decide +kernel, ⟨_, (by decide +kernel : decode cX11_chance 18 = .ok (.invokestatic 82, 3)), w_1144, w_1145⟩⟩
theorem kX11_chance_29 : CallAt mX11_chance 29 1 mX11_in 3 := ⟨by decide +kernel, ⟨_, (by decide +kernel : decode cX11_chance 29 = .ok (.invokestatic 82, 3)), w_1144, w_1145⟩⟩
theorem kX11_chance_56 : CallAt mX11_chance 56 0 mX11_draws 1 := ⟨by decide +kernel, ⟨_, (by decide +kernel : decode cX11_chance 56 = .ok (.invokevirtual 428, 3)), w_1537, w_1539, w_116⟩⟩
theorem kX11_chance_62 : CallAt mX11_chance 62 0 mX11_sure 0 := ⟨by decide +kernel, ⟨_, (by decide +kernel : decode cX11_chance 62 = .ok (.invokevirtual 384, 3)), w_1443, w_1445, w_106⟩⟩
theorem kX11_chance_65 : CallAt mX11_chance 65 1 mX11_bitsOf 1 := ⟨by decide +kernel, ⟨_, (by decide +kernel : decode cX11_chance 65 = .ok (.invokestatic 338, 3)), w_1181, w_1182⟩⟩
theorem kX11_chance_81 : CallAt mX11_chance 81 0 mX11_laysBack 0 := ⟨by decide +kernel, ⟨_, (by decide +kernel : decode cX11_chance 81 = .ok (.invokevirtual 431, 3)), w_1542, w_1544, w_117⟩⟩

set_option maxRecDepth 20000 in
theorem GX11_image : Good mX11_image := ⟨by decide +kernel, List.mem_of_getElem? (i := 1555) (by decide +kernel), inX11, ⟨by decide +kernel, by decide +kernel⟩, by decide, show ∀ q ∈ tX11_image, Snd mX11_image q.1 q.2 from
  sndC (sd_iconst (hd := (by decide +kernel : decode cX11_image 0 = .ok (.iconst 0, 1))) (hv := by decide)) (
   sndC (sd_istore_n (hi := rfl) (hd := (by decide +kernel : decode cX11_image 1 = .ok (.istore_n 1, 1)))) (
   sndC (sd_iload_n (hi := rfl) (hd := (by decide +kernel : decode cX11_image 2 = .ok (.iload_n 1, 1)))) (
   sndC (sd_bipush (hd := (by decide +kernel : decode cX11_image 3 = .ok (.bipush 6, 2))) (hv := by decide)) (
   sndC (sd_cmp_ge (ht := by decide) (hd := (by decide +kernel : decode cX11_image 5 = .ok (.if_icmp .ge 21, 3)))) (
   sndC (sd_aload_n (hi := rfl) (hd := (by decide +kernel : decode cX11_image 8 = .ok (.aload_n 0, 1)))) (
   sndC (sd_get (C := RX11) (T := TX11) (N := 41) (hc := rfl) (hin0 := iX11) (hk := by decide) (hlink := w_1046) (hd := (by decide +kernel : decode cX11_image 9 = .ok (.getfield 50, 3)))) (
   sndC (sd_iload_n (hi := rfl) (hd := (by decide +kernel : decode cX11_image 12 = .ok (.iload_n 1, 1)))) (
   sndC (sd_aload_n (hi := rfl) (hd := (by decide +kernel : decode cX11_image 13 = .ok (.aload_n 0, 1)))) (
   sndC (sd_get (C := RX11) (T := TX11) (N := 41) (hc := rfl) (hin0 := iX11) (hk := by decide) (hlink := w_1022) (hd := (by decide +kernel : decode cX11_image 14 = .ok (.getfield 26, 3)))) (
   sndC (sd_iload_n (hi := rfl) (hd := (by decide +kernel : decode cX11_image 17 = .ok (.iload_n 1, 1)))) (
   sndC (sd_iald (hd := (by decide +kernel : decode cX11_image 18 = .ok (.iaload, 1)))) (
   sndC (sd_iast (hd := (by decide +kernel : decode cX11_image 19 = .ok (.iastore, 1)))) (
   sndC (sd_iinc (hv := by decide) (hd := (by decide +kernel : decode cX11_image 20 = .ok (.iinc 1 1, 3)))) (
   sndC (sd_goto (ht := by decide) (hd := (by decide +kernel : decode cX11_image 23 = .ok (.goto (-21), 3)))) (
   sndC (sd_iconst (hd := (by decide +kernel : decode cX11_image 26 = .ok (.iconst 0, 1))) (hv := by decide)) (
   sndC (sd_istore_n (hi := rfl) (hd := (by decide +kernel : decode cX11_image 27 = .ok (.istore_n 1, 1)))) (
   sndC (sd_iload_n (hi := rfl) (hd := (by decide +kernel : decode cX11_image 28 = .ok (.iload_n 1, 1)))) (
   sndC (sd_bipush (hd := (by decide +kernel : decode cX11_image 29 = .ok (.bipush 18, 2))) (hv := by decide)) (
   sndC (sd_cmp_ge (ht := by decide) (hd := (by decide +kernel : decode cX11_image 31 = .ok (.if_icmp .ge 21, 3)))) (
   sndC (sd_aload_n (hi := rfl) (hd := (by decide +kernel : decode cX11_image 34 = .ok (.aload_n 0, 1)))) (
   sndC (sd_get (C := RX11) (T := TX11) (N := 41) (hc := rfl) (hin0 := iX11) (hk := by decide) (hlink := w_1047) (hd := (by decide +kernel : decode cX11_image 35 = .ok (.getfield 53, 3)))) (
   sndC (sd_iload_n (hi := rfl) (hd := (by decide +kernel : decode cX11_image 38 = .ok (.iload_n 1, 1)))) (
   sndC (sd_aload_n (hi := rfl) (hd := (by decide +kernel : decode cX11_image 39 = .ok (.aload_n 0, 1)))) (
   sndC (sd_get (C := RX11) (T := TX11) (N := 41) (hc := rfl) (hin0 := iX11) (hk := by decide) (hlink := w_1024) (hd := (by decide +kernel : decode cX11_image 40 = .ok (.getfield 32, 3)))) (
   sndC (sd_iload_n (hi := rfl) (hd := (by decide +kernel : decode cX11_image 43 = .ok (.iload_n 1, 1)))) (
   sndC (sd_iald (hd := (by decide +kernel : decode cX11_image 44 = .ok (.iaload, 1)))) (
   sndC (sd_iast (hd := (by decide +kernel : decode cX11_image 45 = .ok (.iastore, 1)))) (
   sndC (sd_iinc (hv := by decide) (hd := (by decide +kernel : decode cX11_image 46 = .ok (.iinc 1 1, 3)))) (
   sndC (sd_goto (ht := by decide) (hd := (by decide +kernel : decode cX11_image 49 = .ok (.goto (-21), 3)))) (
   sndC (sd_aload_n (hi := rfl) (hd := (by decide +kernel : decode cX11_image 52 = .ok (.aload_n 0, 1)))) (
   sndC (sd_aload_n (hi := rfl) (hd := (by decide +kernel : decode cX11_image 53 = .ok (.aload_n 0, 1)))) (
   sndC (sd_get (C := RX11) (T := TX11) (N := 41) (hc := rfl) (hin0 := iX11) (hk := by decide) (hlink := w_1025) (hd := (by decide +kernel : decode cX11_image 54 = .ok (.getfield 79, 3)))) (
   sndC (sd_putI (C := RX11) (T := TX11) (N := 41) (hc := rfl) (hin0 := iX11) (hk := by decide) (hlink := w_1048) (ty0 := tyX11) (hty := tyX11_ok) (hnm := nmX11) (hfin := rfl) (hi := rfl) (hd := (by decide +kernel : decode cX11_image 57 = .ok (.putfield 56, 3)))) (
   sndC (sd_aload_n (hi := rfl) (hd := (by decide +kernel : decode cX11_image 60 = .ok (.aload_n 0, 1)))) (
   sndC (sd_aload_n (hi := rfl) (hd := (by decide +kernel : decode cX11_image 61 = .ok (.aload_n 0, 1)))) (
   sndC (sd_get (C := RX11) (T := TX11) (N := 41) (hc := rfl) (hin0 := iX11) (hk := by decide) (hlink := w_1021) (hd := (by decide +kernel : decode cX11_image 62 = .ok (.getfield 23, 3)))) (
   sndC (sd_putI (C := RX11) (T := TX11) (N := 41) (hc := rfl) (hin0 := iX11) (hk := by decide) (hlink := w_1049) (ty0 := tyX11) (hty := tyX11_ok) (hnm := nmX11) (hfin := rfl) (hi := rfl) (hd := (by decide +kernel : decode cX11_image 65 = .ok (.putfield 438, 3)))) (
   sndC (sd_aload_n (hi := rfl) (hd := (by decide +kernel : decode cX11_image 68 = .ok (.aload_n 0, 1)))) (
   sndC (sd_aload_n (hi := rfl) (hd := (by decide +kernel : decode cX11_image 69 = .ok (.aload_n 0, 1)))) (
   sndC (sd_get (C := RX11) (T := TX11) (N := 41) (hc := rfl) (hin0 := iX11) (hk := by decide) (hlink := w_1018) (hd := (by decide +kernel : decode cX11_image 70 = .ok (.getfield 113, 3)))) (
   sndC (sd_putI (C := RX11) (T := TX11) (N := 41) (hc := rfl) (hin0 := iX11) (hk := by decide) (hlink := w_1050) (ty0 := tyX11) (hty := tyX11_ok) (hnm := nmX11) (hfin := rfl) (hi := rfl) (hd := (by decide +kernel : decode cX11_image 73 = .ok (.putfield 441, 3)))) (
   sndC (sd_aload_n (hi := rfl) (hd := (by decide +kernel : decode cX11_image 76 = .ok (.aload_n 0, 1)))) (
   sndC (sd_get (C := RX11) (T := TX11) (N := 41) (hc := rfl) (hin0 := iX11) (hk := by decide) (hlink := w_1025) (hd := (by decide +kernel : decode cX11_image 77 = .ok (.getfield 79, 3)))) (
   sndN))))))))))))))))))))))))))))))))))))))))))))⟩


set_option maxRecDepth 20000 in
theorem GX11_back : Good mX11_back := ⟨by decide +kernel, List.mem_of_getElem? (i := 1559) (by decide +kernel), inX11, ⟨by decide +kernel, by decide +kernel⟩, by decide, show ∀ q ∈ tX11_back, Snd mX11_back q.1 q.2 from
  sndC (sd_aload_n (hi := rfl) (hd := (by decide +kernel : decode cX11_back 0 = .ok (.aload_n 0, 1)))) (
   sndC (sd_get (C := RX11) (T := TX11) (N := 41) (hc := rfl) (hin0 := iX11) (hk := by decide) (hlink := w_1048) (hd := (by decide +kernel : decode cX11_back 1 = .ok (.getfield 56, 3)))) (
   sndC (sd_iconst (hd := (by decide +kernel : decode cX11_back 4 = .ok (.iconst (-1), 1))) (hv := by decide)) (
   sndC (sd_cmp_ne (ht := by decide) (hd := (by decide +kernel : decode cX11_back 5 = .ok (.if_icmp .ne 6, 3)))) (
   sndC (sd_bipush (hd := (by decide +kernel : decode cX11_back 8 = .ok (.bipush (-3), 2))) (hv := by decide)) (
   sndC (sd_iconst (hd := (by decide +kernel : decode cX11_back 11 = .ok (.iconst 0, 1))) (hv := by decide)) (
   sndC (sd_istore_n (hi := rfl) (hd := (by decide +kernel : decode cX11_back 12 = .ok (.istore_n 1, 1)))) (
   sndC (sd_iload_n (hi := rfl) (hd := (by decide +kernel : decode cX11_back 13 = .ok (.iload_n 1, 1)))) (
   sndC (sd_bipush (hd := (by decide +kernel : decode cX11_back 14 = .ok (.bipush 6, 2))) (hv := by decide)) (
   sndC (sd_cmp_ge (ht := by decide) (hd := (by decide +kernel : decode cX11_back 16 = .ok (.if_icmp .ge 21, 3)))) (
   sndC (sd_aload_n (hi := rfl) (hd := (by decide +kernel : decode cX11_back 19 = .ok (.aload_n 0, 1)))) (
   sndC (sd_get (C := RX11) (T := TX11) (N := 41) (hc := rfl) (hin0 := iX11) (hk := by decide) (hlink := w_1022) (hd := (by decide +kernel : decode cX11_back 20 = .ok (.getfield 26, 3)))) (
   sndC (sd_iload_n (hi := rfl) (hd := (by decide +kernel : decode cX11_back 23 = .ok (.iload_n 1, 1)))) (
   sndC (sd_aload_n (hi := rfl) (hd := (by decide +kernel : decode cX11_back 24 = .ok (.aload_n 0, 1)))) (
   sndC (sd_get (C := RX11) (T := TX11) (N := 41) (hc := rfl) (hin0 := iX11) (hk := by decide) (hlink := w_1046) (hd := (by decide +kernel : decode cX11_back 25 = .ok (.getfield 50, 3)))) (
   sndC (sd_iload_n (hi := rfl) (hd := (by decide +kernel : decode cX11_back 28 = .ok (.iload_n 1, 1)))) (
   sndC (sd_iald (hd := (by decide +kernel : decode cX11_back 29 = .ok (.iaload, 1)))) (
   sndC (sd_iast (hd := (by decide +kernel : decode cX11_back 30 = .ok (.iastore, 1)))) (
   sndC (sd_iinc (hv := by decide) (hd := (by decide +kernel : decode cX11_back 31 = .ok (.iinc 1 1, 3)))) (
   sndC (sd_goto (ht := by decide) (hd := (by decide +kernel : decode cX11_back 34 = .ok (.goto (-21), 3)))) (
   sndC (sd_iconst (hd := (by decide +kernel : decode cX11_back 37 = .ok (.iconst 0, 1))) (hv := by decide)) (
   sndC (sd_istore_n (hi := rfl) (hd := (by decide +kernel : decode cX11_back 38 = .ok (.istore_n 1, 1)))) (
   sndC (sd_iload_n (hi := rfl) (hd := (by decide +kernel : decode cX11_back 39 = .ok (.iload_n 1, 1)))) (
   sndC (sd_bipush (hd := (by decide +kernel : decode cX11_back 40 = .ok (.bipush 18, 2))) (hv := by decide)) (
   sndC (sd_cmp_ge (ht := by decide) (hd := (by decide +kernel : decode cX11_back 42 = .ok (.if_icmp .ge 21, 3)))) (
   sndC (sd_aload_n (hi := rfl) (hd := (by decide +kernel : decode cX11_back 45 = .ok (.aload_n 0, 1)))) (
   sndC (sd_get (C := RX11) (T := TX11) (N := 41) (hc := rfl) (hin0 := iX11) (hk := by decide) (hlink := w_1024) (hd := (by decide +kernel : decode cX11_back 46 = .ok (.getfield 32, 3)))) (
   sndC (sd_iload_n (hi := rfl) (hd := (by decide +kernel : decode cX11_back 49 = .ok (.iload_n 1, 1)))) (
   sndC (sd_aload_n (hi := rfl) (hd := (by decide +kernel : decode cX11_back 50 = .ok (.aload_n 0, 1)))) (
   sndC (sd_get (C := RX11) (T := TX11) (N := 41) (hc := rfl) (hin0 := iX11) (hk := by decide) (hlink := w_1047) (hd := (by decide +kernel : decode cX11_back 51 = .ok (.getfield 53, 3)))) (
   sndC (sd_iload_n (hi := rfl) (hd := (by decide +kernel : decode cX11_back 54 = .ok (.iload_n 1, 1)))) (
   sndC (sd_iald (hd := (by decide +kernel : decode cX11_back 55 = .ok (.iaload, 1)))) (
   sndC (sd_iast (hd := (by decide +kernel : decode cX11_back 56 = .ok (.iastore, 1)))) (
   sndC (sd_iinc (hv := by decide) (hd := (by decide +kernel : decode cX11_back 57 = .ok (.iinc 1 1, 3)))) (
   sndC (sd_goto (ht := by decide) (hd := (by decide +kernel : decode cX11_back 60 = .ok (.goto (-21), 3)))) (
   sndC (sd_aload_n (hi := rfl) (hd := (by decide +kernel : decode cX11_back 63 = .ok (.aload_n 0, 1)))) (
   sndC (sd_aload_n (hi := rfl) (hd := (by decide +kernel : decode cX11_back 64 = .ok (.aload_n 0, 1)))) (
   sndC (sd_get (C := RX11) (T := TX11) (N := 41) (hc := rfl) (hin0 := iX11) (hk := by decide) (hlink := w_1048) (hd := (by decide +kernel : decode cX11_back 65 = .ok (.getfield 56, 3)))) (
   sndC (sd_putI (C := RX11) (T := TX11) (N := 41) (hc := rfl) (hin0 := iX11) (hk := by decide) (hlink := w_1025) (ty0 := tyX11) (hty := tyX11_ok) (hnm := nmX11) (hfin := rfl) (hi := rfl) (hd := (by decide +kernel : decode cX11_back 68 = .ok (.putfield 79, 3)))) (
   sndC (sd_aload_n (hi := rfl) (hd := (by decide +kernel : decode cX11_back 71 = .ok (.aload_n 0, 1)))) (
   sndC (sd_aload_n (hi := rfl) (hd := (by decide +kernel : decode cX11_back 72 = .ok (.aload_n 0, 1)))) (
   sndC (sd_get (C := RX11) (T := TX11) (N := 41) (hc := rfl) (hin0 := iX11) (hk := by decide) (hlink := w_1049) (hd := (by decide +kernel : decode cX11_back 73 = .ok (.getfield 438, 3)))) (
   sndC (sd_putI (C := RX11) (T := TX11) (N := 41) (hc := rfl) (hin0 := iX11) (hk := by decide) (hlink := w_1021) (ty0 := tyX11) (hty := tyX11_ok) (hnm := nmX11) (hfin := rfl) (hi := rfl) (hd := (by decide +kernel : decode cX11_back 76 = .ok (.putfield 23, 3)))) (
   sndC (sd_aload_n (hi := rfl) (hd := (by decide +kernel : decode cX11_back 79 = .ok (.aload_n 0, 1)))) (
   sndC (sd_aload_n (hi := rfl) (hd := (by decide +kernel : decode cX11_back 80 = .ok (.aload_n 0, 1)))) (
   sndC (sd_get (C := RX11) (T := TX11) (N := 41) (hc := rfl) (hin0 := iX11) (hk := by decide) (hlink := w_1050) (hd := (by decide +kernel : decode cX11_back 81 = .ok (.getfield 441, 3)))) (
   sndC (sd_putI (C := RX11) (T := TX11) (N := 41) (hc := rfl) (hin0 := iX11) (hk := by decide) (hlink := w_1018) (ty0 := tyX11) (hty := tyX11_ok) (hnm := nmX11) (hfin := rfl) (hi := rfl) (hd := (by decide +kernel : decode cX11_back 84 = .ok (.putfield 113, 3)))) (
   sndC (sd_aload_n (hi := rfl) (hd := (by decide +kernel : decode cX11_back 87 = .ok (.aload_n 0, 1)))) (
   sndC (sd_get (C := RX11) (T := TX11) (N := 41) (hc := rfl) (hin0 := iX11) (hk := by decide) (hlink := w_1025) (hd := (by decide +kernel : decode cX11_back 88 = .ok (.getfield 79, 3)))) (
   sndN)))))))))))))))))))))))))))))))))))))))))))))))))⟩


set_option maxRecDepth 20000 in
theorem GX11_count : Good mX11_count := ⟨by decide +kernel, List.mem_of_getElem? (i := 1563) (by decide +kernel), inX11, ⟨by decide +kernel, by decide +kernel⟩, by decide, show ∀ q ∈ tX11_count, Snd mX11_count q.1 q.2 from
  sndC (sd_iload_n (hi := rfl) (hd := (by decide +kernel : decode cX11_count 0 = .ok (.iload_n 1, 1)))) (
   sndC (sd_i2l (hd := (by decide +kernel : decode cX11_count 1 = .ok (.i2l, 1)))) (
   sndC (sd_lconst (hd := (by decide +kernel : decode cX11_count 2 = .ok (.lconst 0, 1))) (hv := by decide)) (
   sndC (sd_ldc2 (hw := w_1143) (hd := (by decide +kernel : decode cX11_count 3 = .ok (.ldc2_w 95, 3)))) (
   sndC (sd_if_ne (ht := by decide) (hd := (by decide +kernel : decode cX11_count 9 = .ok (.ifCond .ne 6, 3)))) (
   sndC (sd_bipush (hd := (by decide +kernel : decode cX11_count 12 = .ok (.bipush (-2), 2))) (hv := by decide)) (
   sndC (sd_iload_n (hi := rfl) (hd := (by decide +kernel : decode cX11_count 15 = .ok (.iload_n 1, 1)))) (
   sndC (sd_if_ne (ht := by decide) (hd := (by decide +kernel : decode cX11_count 16 = .ok (.ifCond .ne 10, 3)))) (
   sndC (sd_aload_n (hi := rfl) (hd := (by decide +kernel : decode cX11_count 19 = .ok (.aload_n 0, 1)))) (
   sndC (sd_get (C := RX11) (T := TX11) (N := 41) (hc := rfl) (hin0 := iX11) (hk := by decide) (hlink := w_1025) (hd := (by decide +kernel : decode cX11_count 20 = .ok (.getfield 79, 3)))) (
   sndC (sd_goto (ht := by decide) (hd := (by decide +kernel : decode cX11_count 23 = .ok (.goto 46, 3)))) (
   sndC (sd_iload_n (hi := rfl) (hd := (by decide +kernel : decode cX11_count 26 = .ok (.iload_n 1, 1)))) (
   sndC (sd_iconst (hd := (by decide +kernel : decode cX11_count 27 = .ok (.iconst 1, 1))) (hv := by decide)) (
   sndC (sd_cmp_ne (ht := by decide) (hd := (by decide +kernel : decode cX11_count 28 = .ok (.if_icmp .ne 13, 3)))) (
   sndC (sd_aload_n (hi := rfl) (hd := (by decide +kernel : decode cX11_count 31 = .ok (.aload_n 0, 1)))) (
   sndC (sd_goto (ht := by decide) (hd := (by decide +kernel : decode cX11_count 38 = .ok (.goto 31, 3)))) (
   sndC (sd_iload_n (hi := rfl) (hd := (by decide +kernel : decode cX11_count 41 = .ok (.iload_n 1, 1)))) (
   sndC (sd_iconst (hd := (by decide +kernel : decode cX11_count 42 = .ok (.iconst 2, 1))) (hv := by decide)) (
   sndC (sd_cmp_ne (ht := by decide) (hd := (by decide +kernel : decode cX11_count 43 = .ok (.if_icmp .ne 10, 3)))) (
   sndC (sd_aload_n (hi := rfl) (hd := (by decide +kernel : decode cX11_count 46 = .ok (.aload_n 0, 1)))) (
   sndC (sd_get (C := RX11) (T := TX11) (N := 41) (hc := rfl) (hin0 := iX11) (hk := by decide) (hlink := w_1017) (hd := (by decide +kernel : decode cX11_count 47 = .ok (.getfield 76, 3)))) (
   sndC (sd_goto (ht := by decide) (hd := (by decide +kernel : decode cX11_count 50 = .ok (.goto 19, 3)))) (
   sndC (sd_iload_n (hi := rfl) (hd := (by decide +kernel : decode cX11_count 53 = .ok (.iload_n 1, 1)))) (
   sndC (sd_iconst (hd := (by decide +kernel : decode cX11_count 54 = .ok (.iconst 3, 1))) (hv := by decide)) (
   sndC (sd_cmp_ne (ht := by decide) (hd := (by decide +kernel : decode cX11_count 55 = .ok (.if_icmp .ne 10, 3)))) (
   sndC (sd_aload_n (hi := rfl) (hd := (by decide +kernel : decode cX11_count 58 = .ok (.aload_n 0, 1)))) (
   sndC (sd_get (C := RX11) (T := TX11) (N := 41) (hc := rfl) (hin0 := iX11) (hk := by decide) (hlink := w_1020) (hd := (by decide +kernel : decode cX11_count 59 = .ok (.getfield 134, 3)))) (
   sndC (sd_goto (ht := by decide) (hd := (by decide +kernel : decode cX11_count 62 = .ok (.goto 7, 3)))) (
   sndC (sd_aload_n (hi := rfl) (hd := (by decide +kernel : decode cX11_count 65 = .ok (.aload_n 0, 1)))) (
   sndC (sd_get (C := RX11) (T := TX11) (N := 41) (hc := rfl) (hin0 := iX11) (hk := by decide) (hlink := w_1018) (hd := (by decide +kernel : decode cX11_count 66 = .ok (.getfield 113, 3)))) (
   sndN))))))))))))))))))))))))))))))⟩
theorem kX11_count_6 : CallAt mX11_count 6 1 mX11_in 3 := ⟨by decide +kernel, ⟨_, (by decide +kernel : decode cX11_count 6 = .ok (.invokestatic 82, 3)), w_1144, w_1145⟩⟩
theorem kX11_count_32 : CallAt mX11_count 32 0 mX11_sentSet 0 := ⟨by decide +kernel, ⟨_, (by decide +kernel : decode cX11_count 32 = .ok (.invokevirtual 371, 3)), w_1435, w_1437, w_104⟩⟩
theorem kX11_count_35 : CallAt mX11_count 35 1 mX11_bitsOf 1 := ⟨by decide +kernel, ⟨_, (by decide +kernel : decode cX11_count 35 = .ok (.invokestatic 338, 3)), w_1181, w_1182⟩⟩

set_option maxRecDepth 20000 in
theorem GX11_isSheet : Good mX11_isSheet := ⟨by decide +kernel, List.mem_of_getElem? (i := 1513) (by decide +kernel), inX11, ⟨by decide +kernel, by decide +kernel⟩, by decide, show ∀ q ∈ tX11_isSheet, Snd mX11_isSheet q.1 q.2 from
  sndC (sd_iload_n (hi := rfl) (hd := (by decide +kernel : decode cX11_isSheet 0 = .ok (.iload_n 0, 1)))) (
   sndC (sd_i2l (hd := (by decide +kernel : decode cX11_isSheet 1 = .ok (.i2l, 1)))) (
   sndC (sd_lconst (hd := (by decide +kernel : decode cX11_isSheet 2 = .ok (.lconst 0, 1))) (hv := by decide)) (
   sndC (sd_ldc2 (hw := w_1506) (hd := (by decide +kernel : decode cX11_isSheet 3 = .ok (.ldc2_w 410, 3)))) (
   sndN))))⟩
theorem kX11_isSheet_6 : CallAt mX11_isSheet 6 1 mX11_in 3 := ⟨by decide +kernel, ⟨_, (by decide +kernel : decode cX11_isSheet 6 = .ok (.invokestatic 82, 3)), w_1144, w_1145⟩⟩

set_option maxRecDepth 20000 in
theorem GX11_sheet : Good mX11_sheet := ⟨by decide +kernel, List.mem_of_getElem? (i := 1530) (by decide +kernel), inX11, ⟨by decide +kernel, by decide +kernel⟩, by decide, show ∀ q ∈ tX11_sheet, Snd mX11_sheet q.1 q.2 from
  sndC (sd_iload_n (hi := rfl) (hd := (by decide +kernel : decode cX11_sheet 0 = .ok (.iload_n 1, 1)))) (
   sndC (sd_if_eq (ht := by decide) (hd := (by decide +kernel : decode cX11_sheet 4 = .ok (.ifCond .eq 27, 3)))) (
   sndC (sd_iload_n (hi := rfl) (hd := (by decide +kernel : decode cX11_sheet 7 = .ok (.iload_n 2, 1)))) (
   sndC (sd_i2l (hd := (by decide +kernel : decode cX11_sheet 8 = .ok (.i2l, 1)))) (
   sndC (sd_ldc2 (hw := w_1531) (hd := (by decide +kernel : decode cX11_sheet 9 = .ok (.ldc2_w 444, 3)))) (
   sndC (sd_ldc2 (hw := w_1532) (hd := (by decide +kernel : decode cX11_sheet 12 = .ok (.ldc2_w 446, 3)))) (
   sndC (sd_if_eq (ht := by decide) (hd := (by decide +kernel : decode cX11_sheet 18 = .ok (.ifCond .eq 13, 3)))) (
   sndC (sd_iload_n (hi := rfl) (hd := (by decide +kernel : decode cX11_sheet 21 = .ok (.iload_n 2, 1)))) (
   sndC (sd_if_lt (ht := by decide) (hd := (by decide +kernel : decode cX11_sheet 22 = .ok (.ifCond .lt 12, 3)))) (
   sndC (sd_iload_n (hi := rfl) (hd := (by decide +kernel : decode cX11_sheet 25 = .ok (.iload_n 3, 1)))) (
   sndC (sd_bipush (hd := (by decide +kernel : decode cX11_sheet 26 = .ok (.bipush 40, 2))) (hv := by decide)) (
   sndC (sd_cmp_le (ht := by decide) (hd := (by decide +kernel : decode cX11_sheet 28 = .ok (.if_icmp .le 6, 3)))) (
   sndC (sd_bipush (hd := (by decide +kernel : decode cX11_sheet 31 = .ok (.bipush (-2), 2))) (hv := by decide)) (
   sndC (sd_iload_n (hi := rfl) (hd := (by decide +kernel : decode cX11_sheet 34 = .ok (.iload_n 2, 1)))) (
   sndC (sd_if_lt (ht := by decide) (hd := (by decide +kernel : decode cX11_sheet 35 = .ok (.ifCond .lt 10, 3)))) (
   sndC (sd_iload_n (hi := rfl) (hd := (by decide +kernel : decode cX11_sheet 38 = .ok (.iload_n 3, 1)))) (
   sndC (sd_if_ge (ht := by decide) (hd := (by decide +kernel : decode cX11_sheet 39 = .ok (.ifCond .ge 6, 3)))) (
   sndC (sd_bipush (hd := (by decide +kernel : decode cX11_sheet 42 = .ok (.bipush (-14), 2))) (hv := by decide)) (
   sndC (sd_aload_n (hi := rfl) (hd := (by decide +kernel : decode cX11_sheet 45 = .ok (.aload_n 0, 1)))) (
   sndC (sd_get (C := RX11) (T := TX11) (N := 41) (hc := rfl) (hin0 := iX11) (hk := by decide) (hlink := w_1051) (hd := (by decide +kernel : decode cX11_sheet 46 = .ok (.getfield 59, 3)))) (
   sndC (sd_iload_n (hi := rfl) (hd := (by decide +kernel : decode cX11_sheet 49 = .ok (.iload_n 1, 1)))) (
   sndC (sd_iload_n (hi := rfl) (hd := (by decide +kernel : decode cX11_sheet 50 = .ok (.iload_n 2, 1)))) (
   sndC (sd_if_lt (ht := by decide) (hd := (by decide +kernel : decode cX11_sheet 51 = .ok (.ifCond .lt 7, 3)))) (
   sndC (sd_iconst (hd := (by decide +kernel : decode cX11_sheet 54 = .ok (.iconst 1, 1))) (hv := by decide)) (
   sndC (sd_goto (ht := by decide) (hd := (by decide +kernel : decode cX11_sheet 55 = .ok (.goto 4, 3)))) (
   sndC (sd_iconst (hd := (by decide +kernel : decode cX11_sheet 58 = .ok (.iconst 0, 1))) (hv := by decide)) (
   sndC (sd_zast (hd := (by decide +kernel : decode cX11_sheet 59 = .ok (.bastore, 1)))) (
   sndC (sd_aload_n (hi := rfl) (hd := (by decide +kernel : decode cX11_sheet 60 = .ok (.aload_n 0, 1)))) (
   sndC (sd_get (C := RX11) (T := TX11) (N := 41) (hc := rfl) (hin0 := iX11) (hk := by decide) (hlink := w_1052) (hd := (by decide +kernel : decode cX11_sheet 61 = .ok (.getfield 63, 3)))) (
   sndC (sd_iload_n (hi := rfl) (hd := (by decide +kernel : decode cX11_sheet 64 = .ok (.iload_n 1, 1)))) (
   sndC (sd_iload_n (hi := rfl) (hd := (by decide +kernel : decode cX11_sheet 65 = .ok (.iload_n 2, 1)))) (
   sndC (sd_iast (hd := (by decide +kernel : decode cX11_sheet 66 = .ok (.iastore, 1)))) (
   sndC (sd_aload_n (hi := rfl) (hd := (by decide +kernel : decode cX11_sheet 67 = .ok (.aload_n 0, 1)))) (
   sndC (sd_get (C := RX11) (T := TX11) (N := 41) (hc := rfl) (hin0 := iX11) (hk := by decide) (hlink := w_1053) (hd := (by decide +kernel : decode cX11_sheet 68 = .ok (.getfield 66, 3)))) (
   sndC (sd_iload_n (hi := rfl) (hd := (by decide +kernel : decode cX11_sheet 71 = .ok (.iload_n 1, 1)))) (
   sndC (sd_iload_n (hi := rfl) (hd := (by decide +kernel : decode cX11_sheet 72 = .ok (.iload_n 3, 1)))) (
   sndC (sd_iast (hd := (by decide +kernel : decode cX11_sheet 73 = .ok (.iastore, 1)))) (
   sndC (sd_iconst (hd := (by decide +kernel : decode cX11_sheet 74 = .ok (.iconst 0, 1))) (hv := by decide)) (
   sndC (sd_istore (hd := (by decide +kernel : decode cX11_sheet 75 = .ok (.istore 4, 2)))) (
   sndC (sd_iload (hd := (by decide +kernel : decode cX11_sheet 77 = .ok (.iload 4, 2)))) (
   sndC (sd_iload_n (hi := rfl) (hd := (by decide +kernel : decode cX11_sheet 79 = .ok (.iload_n 3, 1)))) (
   sndC (sd_cmp_ge (ht := by decide) (hd := (by decide +kernel : decode cX11_sheet 80 = .ok (.if_icmp .ge 26, 3)))) (
   sndC (sd_iload_n (hi := rfl) (hd := (by decide +kernel : decode cX11_sheet 83 = .ok (.iload_n 2, 1)))) (
   sndC (sd_if_lt (ht := by decide) (hd := (by decide +kernel : decode cX11_sheet 84 = .ok (.ifCond .lt 22, 3)))) (
   sndC (sd_aload_n (hi := rfl) (hd := (by decide +kernel : decode cX11_sheet 87 = .ok (.aload_n 0, 1)))) (
   sndC (sd_get (C := RX11) (T := TX11) (N := 41) (hc := rfl) (hin0 := iX11) (hk := by decide) (hlink := w_1054) (hd := (by decide +kernel : decode cX11_sheet 88 = .ok (.getfield 69, 3)))) (
   sndC (sd_bipush (hd := (by decide +kernel : decode cX11_sheet 91 = .ok (.bipush 40, 2))) (hv := by decide)) (
   sndC (sd_iload_n (hi := rfl) (hd := (by decide +kernel : decode cX11_sheet 93 = .ok (.iload_n 1, 1)))) (
   sndC (sd_imul (hd := (by decide +kernel : decode cX11_sheet 94 = .ok (.imul, 1)))) (
   sndC (sd_iload (hd := (by decide +kernel : decode cX11_sheet 95 = .ok (.iload 4, 2)))) (
   sndC (sd_iadd (hd := (by decide +kernel : decode cX11_sheet 97 = .ok (.iadd, 1)))) (
   sndC (sd_iconst (hd := (by decide +kernel : decode cX11_sheet 98 = .ok (.iconst 0, 1))) (hv := by decide)) (
   sndC (sd_iast (hd := (by decide +kernel : decode cX11_sheet 99 = .ok (.iastore, 1)))) (
   sndC (sd_iinc (hv := by decide) (hd := (by decide +kernel : decode cX11_sheet 100 = .ok (.iinc 4 1, 3)))) (
   sndC (sd_goto (ht := by decide) (hd := (by decide +kernel : decode cX11_sheet 103 = .ok (.goto (-26), 3)))) (
   sndC (sd_iconst (hd := (by decide +kernel : decode cX11_sheet 106 = .ok (.iconst 1, 1))) (hv := by decide)) (
   sndN))))))))))))))))))))))))))))))))))))))))))))))))))))))))⟩
theorem kX11_sheet_1 : CallAt mX11_sheet 1 1 mX11_isSheet 1 := ⟨by decide +kernel, ⟨_, (by decide +kernel : decode cX11_sheet 1 = .ok (.invokestatic 412, 3)), w_1511, w_1512⟩⟩
theorem kX11_sheet_15 : CallAt mX11_sheet 15 1 mX11_in 3 := ⟨by decide +kernel, ⟨_, (by decide +kernel : decode cX11_sheet 15 = .ok (.invokestatic 82, 3)), w_1144, w_1145⟩⟩

set_option maxRecDepth 20000 in
theorem GX11_cell : Good mX11_cell := ⟨by decide +kernel, List.mem_of_getElem? (i := 1568) (by decide +kernel), inX11, ⟨by decide +kernel, by decide +kernel⟩, by decide, show ∀ q ∈ tX11_cell, Snd mX11_cell q.1 q.2 from
  sndC (sd_iload_n (hi := rfl) (hd := (by decide +kernel : decode cX11_cell 0 = .ok (.iload_n 1, 1)))) (
   sndC (sd_if_ne (ht := by decide) (hd := (by decide +kernel : decode cX11_cell 4 = .ok (.ifCond .ne 6, 3)))) (
   sndC (sd_bipush (hd := (by decide +kernel : decode cX11_cell 7 = .ok (.bipush (-2), 2))) (hv := by decide)) (
   sndC (sd_aload_n (hi := rfl) (hd := (by decide +kernel : decode cX11_cell 10 = .ok (.aload_n 0, 1)))) (
   sndC (sd_get (C := RX11) (T := TX11) (N := 41) (hc := rfl) (hin0 := iX11) (hk := by decide) (hlink := w_1051) (hd := (by decide +kernel : decode cX11_cell 11 = .ok (.getfield 59, 3)))) (
   sndC (sd_iload_n (hi := rfl) (hd := (by decide +kernel : decode cX11_cell 14 = .ok (.iload_n 1, 1)))) (
   sndC (sd_zald (hd := (by decide +kernel : decode cX11_cell 15 = .ok (.baload, 1)))) (
   sndC (sd_if_ne (ht := by decide) (hd := (by decide +kernel : decode cX11_cell 16 = .ok (.ifCond .ne 6, 3)))) (
   sndC (sd_bipush (hd := (by decide +kernel : decode cX11_cell 19 = .ok (.bipush (-11), 2))) (hv := by decide)) (
   sndC (sd_iload_n (hi := rfl) (hd := (by decide +kernel : decode cX11_cell 22 = .ok (.iload_n 2, 1)))) (
   sndC (sd_i2l (hd := (by decide +kernel : decode cX11_cell 23 = .ok (.i2l, 1)))) (
   sndC (sd_lconst (hd := (by decide +kernel : decode cX11_cell 24 = .ok (.lconst 0, 1))) (hv := by decide)) (
   sndC (sd_aload_n (hi := rfl) (hd := (by decide +kernel : decode cX11_cell 25 = .ok (.aload_n 0, 1)))) (
   sndC (sd_get (C := RX11) (T := TX11) (N := 41) (hc := rfl) (hin0 := iX11) (hk := by decide) (hlink := w_1053) (hd := (by decide +kernel : decode cX11_cell 26 = .ok (.getfield 66, 3)))) (
   sndC (sd_iload_n (hi := rfl) (hd := (by decide +kernel : decode cX11_cell 29 = .ok (.iload_n 1, 1)))) (
   sndC (sd_iald (hd := (by decide +kernel : decode cX11_cell 30 = .ok (.iaload, 1)))) (
   sndC (sd_iconst (hd := (by decide +kernel : decode cX11_cell 31 = .ok (.iconst 1, 1))) (hv := by decide)) (
   sndC (sd_isub (hd := (by decide +kernel : decode cX11_cell 32 = .ok (.isub, 1)))) (
   sndC (sd_i2l (hd := (by decide +kernel : decode cX11_cell 33 = .ok (.i2l, 1)))) (
   sndC (sd_if_ne (ht := by decide) (hd := (by decide +kernel : decode cX11_cell 37 = .ok (.ifCond .ne 6, 3)))) (
   sndC (sd_bipush (hd := (by decide +kernel : decode cX11_cell 40 = .ok (.bipush (-12), 2))) (hv := by decide)) (
   sndC (sd_aload_n (hi := rfl) (hd := (by decide +kernel : decode cX11_cell 43 = .ok (.aload_n 0, 1)))) (
   sndC (sd_get (C := RX11) (T := TX11) (N := 41) (hc := rfl) (hin0 := iX11) (hk := by decide) (hlink := w_1054) (hd := (by decide +kernel : decode cX11_cell 44 = .ok (.getfield 69, 3)))) (
   sndC (sd_bipush (hd := (by decide +kernel : decode cX11_cell 47 = .ok (.bipush 40, 2))) (hv := by decide)) (
   sndC (sd_iload_n (hi := rfl) (hd := (by decide +kernel : decode cX11_cell 49 = .ok (.iload_n 1, 1)))) (
   sndC (sd_imul (hd := (by decide +kernel : decode cX11_cell 50 = .ok (.imul, 1)))) (
   sndC (sd_iload_n (hi := rfl) (hd := (by decide +kernel : decode cX11_cell 51 = .ok (.iload_n 2, 1)))) (
   sndC (sd_iadd (hd := (by decide +kernel : decode cX11_cell 52 = .ok (.iadd, 1)))) (
   sndC (sd_aload_n (hi := rfl) (hd := (by decide +kernel : decode cX11_cell 53 = .ok (.aload_n 0, 1)))) (
   sndC (sd_get (C := RX11) (T := TX11) (N := 41) (hc := rfl) (hin0 := iX11) (hk := by decide) (hlink := w_1052) (hd := (by decide +kernel : decode cX11_cell 54 = .ok (.getfield 63, 3)))) (
   sndC (sd_iload_n (hi := rfl) (hd := (by decide +kernel : decode cX11_cell 57 = .ok (.iload_n 1, 1)))) (
   sndC (sd_iald (hd := (by decide +kernel : decode cX11_cell 58 = .ok (.iaload, 1)))) (
   sndC (sd_if_ne (ht := by decide) (hd := (by decide +kernel : decode cX11_cell 59 = .ok (.ifCond .ne 8, 3)))) (
   sndC (sd_iload_n (hi := rfl) (hd := (by decide +kernel : decode cX11_cell 62 = .ok (.iload_n 3, 1)))) (
   sndC (sd_i2b (hd := (by decide +kernel : decode cX11_cell 63 = .ok (.i2b, 1)))) (
   sndC (sd_goto (ht := by decide) (hd := (by decide +kernel : decode cX11_cell 64 = .ok (.goto 19, 3)))) (
   sndC (sd_aload_n (hi := rfl) (hd := (by decide +kernel : decode cX11_cell 67 = .ok (.aload_n 0, 1)))) (
   sndC (sd_get (C := RX11) (T := TX11) (N := 41) (hc := rfl) (hin0 := iX11) (hk := by decide) (hlink := w_1052) (hd := (by decide +kernel : decode cX11_cell 68 = .ok (.getfield 63, 3)))) (
   sndC (sd_iload_n (hi := rfl) (hd := (by decide +kernel : decode cX11_cell 71 = .ok (.iload_n 1, 1)))) (
   sndC (sd_iald (hd := (by decide +kernel : decode cX11_cell 72 = .ok (.iaload, 1)))) (
   sndC (sd_iconst (hd := (by decide +kernel : decode cX11_cell 73 = .ok (.iconst 1, 1))) (hv := by decide)) (
   sndC (sd_cmp_ne (ht := by decide) (hd := (by decide +kernel : decode cX11_cell 74 = .ok (.if_icmp .ne 8, 3)))) (
   sndC (sd_iload_n (hi := rfl) (hd := (by decide +kernel : decode cX11_cell 77 = .ok (.iload_n 3, 1)))) (
   sndC (sd_i2s (hd := (by decide +kernel : decode cX11_cell 78 = .ok (.i2s, 1)))) (
   sndC (sd_goto (ht := by decide) (hd := (by decide +kernel : decode cX11_cell 79 = .ok (.goto 4, 3)))) (
   sndC (sd_iload_n (hi := rfl) (hd := (by decide +kernel : decode cX11_cell 82 = .ok (.iload_n 3, 1)))) (
   sndC (sd_iast (hd := (by decide +kernel : decode cX11_cell 83 = .ok (.iastore, 1)))) (
   sndC (sd_iconst (hd := (by decide +kernel : decode cX11_cell 84 = .ok (.iconst 1, 1))) (hv := by decide)) (
   sndN))))))))))))))))))))))))))))))))))))))))))))))))⟩
theorem kX11_cell_1 : CallAt mX11_cell 1 1 mX11_isSheet 1 := ⟨by decide +kernel, ⟨_, (by decide +kernel : decode cX11_cell 1 = .ok (.invokestatic 412, 3)), w_1511, w_1512⟩⟩
theorem kX11_cell_34 : CallAt mX11_cell 34 1 mX11_in 3 := ⟨by decide +kernel, ⟨_, (by decide +kernel : decode cX11_cell 34 = .ok (.invokestatic 82, 3)), w_1144, w_1145⟩⟩

set_option maxRecDepth 20000 in
theorem GX11_copy : Good mX11_copy := ⟨by decide +kernel, List.mem_of_getElem? (i := 1572) (by decide +kernel), inX11, ⟨by decide +kernel, by decide +kernel⟩, by decide, show ∀ q ∈ tX11_copy, Snd mX11_copy q.1 q.2 from
  sndC (sd_iload_n (hi := rfl) (hd := (by decide +kernel : decode cX11_copy 0 = .ok (.iload_n 1, 1)))) (
   sndC (sd_if_eq (ht := by decide) (hd := (by decide +kernel : decode cX11_copy 4 = .ok (.ifCond .eq 10, 3)))) (
   sndC (sd_iload_n (hi := rfl) (hd := (by decide +kernel : decode cX11_copy 7 = .ok (.iload_n 3, 1)))) (
   sndC (sd_if_ne (ht := by decide) (hd := (by decide +kernel : decode cX11_copy 11 = .ok (.ifCond .ne 6, 3)))) (
   sndC (sd_bipush (hd := (by decide +kernel : decode cX11_copy 14 = .ok (.bipush (-2), 2))) (hv := by decide)) (
   sndC (sd_aload_n (hi := rfl) (hd := (by decide +kernel : decode cX11_copy 17 = .ok (.aload_n 0, 1)))) (
   sndC (sd_get (C := RX11) (T := TX11) (N := 41) (hc := rfl) (hin0 := iX11) (hk := by decide) (hlink := w_1051) (hd := (by decide +kernel : decode cX11_copy 18 = .ok (.getfield 59, 3)))) (
   sndC (sd_iload_n (hi := rfl) (hd := (by decide +kernel : decode cX11_copy 21 = .ok (.iload_n 1, 1)))) (
   sndC (sd_zald (hd := (by decide +kernel : decode cX11_copy 22 = .ok (.baload, 1)))) (
   sndC (sd_if_eq (ht := by decide) (hd := (by decide +kernel : decode cX11_copy 23 = .ok (.ifCond .eq 12, 3)))) (
   sndC (sd_aload_n (hi := rfl) (hd := (by decide +kernel : decode cX11_copy 26 = .ok (.aload_n 0, 1)))) (
   sndC (sd_get (C := RX11) (T := TX11) (N := 41) (hc := rfl) (hin0 := iX11) (hk := by decide) (hlink := w_1051) (hd := (by decide +kernel : decode cX11_copy 27 = .ok (.getfield 59, 3)))) (
   sndC (sd_iload_n (hi := rfl) (hd := (by decide +kernel : decode cX11_copy 30 = .ok (.iload_n 3, 1)))) (
   sndC (sd_zald (hd := (by decide +kernel : decode cX11_copy 31 = .ok (.baload, 1)))) (
   sndC (sd_if_ne (ht := by decide) (hd := (by decide +kernel : decode cX11_copy 32 = .ok (.ifCond .ne 6, 3)))) (
   sndC (sd_bipush (hd := (by decide +kernel : decode cX11_copy 35 = .ok (.bipush (-11), 2))) (hv := by decide)) (
   sndC (sd_aload_n (hi := rfl) (hd := (by decide +kernel : decode cX11_copy 38 = .ok (.aload_n 0, 1)))) (
   sndC (sd_get (C := RX11) (T := TX11) (N := 41) (hc := rfl) (hin0 := iX11) (hk := by decide) (hlink := w_1052) (hd := (by decide +kernel : decode cX11_copy 39 = .ok (.getfield 63, 3)))) (
   sndC (sd_iload_n (hi := rfl) (hd := (by decide +kernel : decode cX11_copy 42 = .ok (.iload_n 1, 1)))) (
   sndC (sd_iald (hd := (by decide +kernel : decode cX11_copy 43 = .ok (.iaload, 1)))) (
   sndC (sd_aload_n (hi := rfl) (hd := (by decide +kernel : decode cX11_copy 44 = .ok (.aload_n 0, 1)))) (
   sndC (sd_get (C := RX11) (T := TX11) (N := 41) (hc := rfl) (hin0 := iX11) (hk := by decide) (hlink := w_1052) (hd := (by decide +kernel : decode cX11_copy 45 = .ok (.getfield 63, 3)))) (
   sndC (sd_iload_n (hi := rfl) (hd := (by decide +kernel : decode cX11_copy 48 = .ok (.iload_n 3, 1)))) (
   sndC (sd_iald (hd := (by decide +kernel : decode cX11_copy 49 = .ok (.iaload, 1)))) (
   sndC (sd_cmp_eq (ht := by decide) (hd := (by decide +kernel : decode cX11_copy 50 = .ok (.if_icmp .eq 6, 3)))) (
   sndC (sd_bipush (hd := (by decide +kernel : decode cX11_copy 53 = .ok (.bipush (-13), 2))) (hv := by decide)) (
   sndC (sd_iload (hd := (by decide +kernel : decode cX11_copy 56 = .ok (.iload 5, 2)))) (
   sndC (sd_if_lt (ht := by decide) (hd := (by decide +kernel : decode cX11_copy 58 = .ok (.ifCond .lt 39, 3)))) (
   sndC (sd_iload_n (hi := rfl) (hd := (by decide +kernel : decode cX11_copy 61 = .ok (.iload_n 2, 1)))) (
   sndC (sd_if_lt (ht := by decide) (hd := (by decide +kernel : decode cX11_copy 62 = .ok (.ifCond .lt 35, 3)))) (
   sndC (sd_iload (hd := (by decide +kernel : decode cX11_copy 65 = .ok (.iload 4, 2)))) (
   sndC (sd_if_lt (ht := by decide) (hd := (by decide +kernel : decode cX11_copy 67 = .ok (.ifCond .lt 30, 3)))) (
   sndC (sd_iload_n (hi := rfl) (hd := (by decide +kernel : decode cX11_copy 70 = .ok (.iload_n 2, 1)))) (
   sndC (sd_aload_n (hi := rfl) (hd := (by decide +kernel : decode cX11_copy 71 = .ok (.aload_n 0, 1)))) (
   sndC (sd_get (C := RX11) (T := TX11) (N := 41) (hc := rfl) (hin0 := iX11) (hk := by decide) (hlink := w_1053) (hd := (by decide +kernel : decode cX11_copy 72 = .ok (.getfield 66, 3)))) (
   sndC (sd_iload_n (hi := rfl) (hd := (by decide +kernel : decode cX11_copy 75 = .ok (.iload_n 1, 1)))) (
   sndC (sd_iald (hd := (by decide +kernel : decode cX11_copy 76 = .ok (.iaload, 1)))) (
   sndC (sd_iload (hd := (by decide +kernel : decode cX11_copy 77 = .ok (.iload 5, 2)))) (
   sndC (sd_isub (hd := (by decide +kernel : decode cX11_copy 79 = .ok (.isub, 1)))) (
   sndC (sd_cmp_gt (ht := by decide) (hd := (by decide +kernel : decode cX11_copy 80 = .ok (.if_icmp .gt 17, 3)))) (
   sndC (sd_iload (hd := (by decide +kernel : decode cX11_copy 83 = .ok (.iload 4, 2)))) (
   sndC (sd_aload_n (hi := rfl) (hd := (by decide +kernel : decode cX11_copy 85 = .ok (.aload_n 0, 1)))) (
   sndC (sd_get (C := RX11) (T := TX11) (N := 41) (hc := rfl) (hin0 := iX11) (hk := by decide) (hlink := w_1053) (hd := (by decide +kernel : decode cX11_copy 86 = .ok (.getfield 66, 3)))) (
   sndC (sd_iload_n (hi := rfl) (hd := (by decide +kernel : decode cX11_copy 89 = .ok (.iload_n 3, 1)))) (
   sndC (sd_iald (hd := (by decide +kernel : decode cX11_copy 90 = .ok (.iaload, 1)))) (
   sndC (sd_iload (hd := (by decide +kernel : decode cX11_copy 91 = .ok (.iload 5, 2)))) (
   sndC (sd_isub (hd := (by decide +kernel : decode cX11_copy 93 = .ok (.isub, 1)))) (
   sndC (sd_cmp_le (ht := by decide) (hd := (by decide +kernel : decode cX11_copy 94 = .ok (.if_icmp .le 6, 3)))) (
   sndC (sd_bipush (hd := (by decide +kernel : decode cX11_copy 97 = .ok (.bipush (-12), 2))) (hv := by decide)) (
   sndC (sd_iload_n (hi := rfl) (hd := (by decide +kernel : decode cX11_copy 100 = .ok (.iload_n 1, 1)))) (
   sndC (sd_iload_n (hi := rfl) (hd := (by decide +kernel : decode cX11_copy 101 = .ok (.iload_n 3, 1)))) (
   sndC (sd_cmp_ne (ht := by decide) (hd := (by decide +kernel : decode cX11_copy 102 = .ok (.if_icmp .ne 13, 3)))) (
   sndC (sd_iload_n (hi := rfl) (hd := (by decide +kernel : decode cX11_copy 105 = .ok (.iload_n 2, 1)))) (
   sndC (sd_iload (hd := (by decide +kernel : decode cX11_copy 106 = .ok (.iload 4, 2)))) (
   sndC (sd_cmp_ge (ht := by decide) (hd := (by decide +kernel : decode cX11_copy 108 = .ok (.if_icmp .ge 7, 3)))) (
   sndC (sd_iconst (hd := (by decide +kernel : decode cX11_copy 111 = .ok (.iconst 1, 1))) (hv := by decide)) (
   sndC (sd_goto (ht := by decide) (hd := (by decide +kernel : decode cX11_copy 112 = .ok (.goto 4, 3)))) (
   sndC (sd_iconst (hd := (by decide +kernel : decode cX11_copy 115 = .ok (.iconst 0, 1))) (hv := by decide)) (
   sndC (sd_istore (hd := (by decide +kernel : decode cX11_copy 116 = .ok (.istore 6, 2)))) (
   sndC (sd_iconst (hd := (by decide +kernel : decode cX11_copy 118 = .ok (.iconst 0, 1))) (hv := by decide)) (
   sndC (sd_istore (hd := (by decide +kernel : decode cX11_copy 119 = .ok (.istore 7, 2)))) (
   sndC (sd_iload (hd := (by decide +kernel : decode cX11_copy 121 = .ok (.iload 7, 2)))) (
   sndC (sd_iload (hd := (by decide +kernel : decode cX11_copy 123 = .ok (.iload 5, 2)))) (
   sndC (sd_cmp_ge (ht := by decide) (hd := (by decide +kernel : decode cX11_copy 125 = .ok (.if_icmp .ge 57, 3)))) (
   sndC (sd_iload (hd := (by decide +kernel : decode cX11_copy 128 = .ok (.iload 6, 2)))) (
   sndC (sd_if_eq (ht := by decide) (hd := (by decide +kernel : decode cX11_copy 130 = .ok (.ifCond .eq 13, 3)))) (
   sndC (sd_iload (hd := (by decide +kernel : decode cX11_copy 133 = .ok (.iload 5, 2)))) (
   sndC (sd_iconst (hd := (by decide +kernel : decode cX11_copy 135 = .ok (.iconst 1, 1))) (hv := by decide)) (
   sndC (sd_isub (hd := (by decide +kernel : decode cX11_copy 136 = .ok (.isub, 1)))) (
   sndC (sd_iload (hd := (by decide +kernel : decode cX11_copy 137 = .ok (.iload 7, 2)))) (
   sndC (sd_isub (hd := (by decide +kernel : decode cX11_copy 139 = .ok (.isub, 1)))) (
   sndC (sd_goto (ht := by decide) (hd := (by decide +kernel : decode cX11_copy 140 = .ok (.goto 5, 3)))) (
   sndC (sd_iload (hd := (by decide +kernel : decode cX11_copy 143 = .ok (.iload 7, 2)))) (
   sndC (sd_istore (hd := (by decide +kernel : decode cX11_copy 145 = .ok (.istore 8, 2)))) (
   sndC (sd_aload_n (hi := rfl) (hd := (by decide +kernel : decode cX11_copy 147 = .ok (.aload_n 0, 1)))) (
   sndC (sd_get (C := RX11) (T := TX11) (N := 41) (hc := rfl) (hin0 := iX11) (hk := by decide) (hlink := w_1054) (hd := (by decide +kernel : decode cX11_copy 148 = .ok (.getfield 69, 3)))) (
   sndC (sd_bipush (hd := (by decide +kernel : decode cX11_copy 151 = .ok (.bipush 40, 2))) (hv := by decide)) (
   sndC (sd_iload_n (hi := rfl) (hd := (by decide +kernel : decode cX11_copy 153 = .ok (.iload_n 3, 1)))) (
   sndC (sd_imul (hd := (by decide +kernel : decode cX11_copy 154 = .ok (.imul, 1)))) (
   sndC (sd_iload (hd := (by decide +kernel : decode cX11_copy 155 = .ok (.iload 4, 2)))) (
   sndC (sd_iadd (hd := (by decide +kernel : decode cX11_copy 157 = .ok (.iadd, 1)))) (
   sndC (sd_iload (hd := (by decide +kernel : decode cX11_copy 158 = .ok (.iload 8, 2)))) (
   sndC (sd_iadd (hd := (by decide +kernel : decode cX11_copy 160 = .ok (.iadd, 1)))) (
   sndC (sd_aload_n (hi := rfl) (hd := (by decide +kernel : decode cX11_copy 161 = .ok (.aload_n 0, 1)))) (
   sndC (sd_get (C := RX11) (T := TX11) (N := 41) (hc := rfl) (hin0 := iX11) (hk := by decide) (hlink := w_1054) (hd := (by decide +kernel : decode cX11_copy 162 = .ok (.getfield 69, 3)))) (
   sndC (sd_bipush (hd := (by decide +kernel : decode cX11_copy 165 = .ok (.bipush 40, 2))) (hv := by decide)) (
   sndC (sd_iload_n (hi := rfl) (hd := (by decide +kernel : decode cX11_copy 167 = .ok (.iload_n 1, 1)))) (
   sndC (sd_imul (hd := (by decide +kernel : decode cX11_copy 168 = .ok (.imul, 1)))) (
   sndC (sd_iload_n (hi := rfl) (hd := (by decide +kernel : decode cX11_copy 169 = .ok (.iload_n 2, 1)))) (
   sndC (sd_iadd (hd := (by decide +kernel : decode cX11_copy 170 = .ok (.iadd, 1)))) (
   sndC (sd_iload (hd := (by decide +kernel : decode cX11_copy 171 = .ok (.iload 8, 2)))) (
   sndC (sd_iadd (hd := (by decide +kernel : decode cX11_copy 173 = .ok (.iadd, 1)))) (
   sndC (sd_iald (hd := (by decide +kernel : decode cX11_copy 174 = .ok (.iaload, 1)))) (
   sndC (sd_iast (hd := (by decide +kernel : decode cX11_copy 175 = .ok (.iastore, 1)))) (
   sndC (sd_iinc (hv := by decide) (hd := (by decide +kernel : decode cX11_copy 176 = .ok (.iinc 7 1, 3)))) (
   sndC (sd_goto (ht := by decide) (hd := (by decide +kernel : decode cX11_copy 179 = .ok (.goto (-58), 3)))) (
   sndC (sd_iload (hd := (by decide +kernel : decode cX11_copy 182 = .ok (.iload 5, 2)))) (
   sndN)))))))))))))))))))))))))))))))))))))))))))))))))))))))))))))))))))))))))))))))))))))))))))))))))⟩
theorem kX11_copy_1 : CallAt mX11_copy 1 1 mX11_isSheet 1 := ⟨by decide +kernel, ⟨_, (by decide +kernel : decode cX11_copy 1 = .ok (.invokestatic 412, 3)), w_1511, w_1512⟩⟩
theorem kX11_copy_8 : CallAt mX11_copy 8 1 mX11_isSheet 1 := ⟨by decide +kernel, ⟨_, (by decide +kernel : decode cX11_copy 8 = .ok (.invokestatic 412, 3)), w_1511, w_1512⟩⟩

set_option maxRecDepth 20000 in
theorem GX11_witnesses : Good mX11_witnesses := ⟨by decide +kernel, List.mem_of_getElem? (i := 1576) (by decide +kernel), inX11, ⟨by decide +kernel, by decide +kernel⟩, by decide, show ∀ q ∈ tX11_witnesses, Snd mX11_witnesses q.1 q.2 from
  sndC (sd_iload_n (hi := rfl) (hd := (by decide +kernel : decode cX11_witnesses 0 = .ok (.iload_n 1, 1)))) (
   sndC (sd_if_eq (ht := by decide) (hd := (by decide +kernel : decode cX11_witnesses 4 = .ok (.ifCond .eq 28, 3)))) (
   sndC (sd_iload_n (hi := rfl) (hd := (by decide +kernel : decode cX11_witnesses 7 = .ok (.iload_n 2, 1)))) (
   sndC (sd_i2l (hd := (by decide +kernel : decode cX11_witnesses 8 = .ok (.i2l, 1)))) (
   sndC (sd_lconst (hd := (by decide +kernel : decode cX11_witnesses 9 = .ok (.lconst 0, 1))) (hv := by decide)) (
   sndC (sd_ldc2 (hw := w_1532) (hd := (by decide +kernel : decode cX11_witnesses 10 = .ok (.ldc2_w 446, 3)))) (
   sndC (sd_if_eq (ht := by decide) (hd := (by decide +kernel : decode cX11_witnesses 16 = .ok (.ifCond .eq 16, 3)))) (
   sndC (sd_iload (hd := (by decide +kernel : decode cX11_witnesses 19 = .ok (.iload 4, 2)))) (
   sndC (sd_i2l (hd := (by decide +kernel : decode cX11_witnesses 21 = .ok (.i2l, 1)))) (
   sndC (sd_lconst (hd := (by decide +kernel : decode cX11_witnesses 22 = .ok (.lconst 0, 1))) (hv := by decide)) (
   sndC (sd_ldc2 (hw := w_1166) (hd := (by decide +kernel : decode cX11_witnesses 23 = .ok (.ldc2_w 120, 3)))) (
   sndC (sd_if_ne (ht := by decide) (hd := (by decide +kernel : decode cX11_witnesses 29 = .ok (.ifCond .ne 6, 3)))) (
   sndC (sd_bipush (hd := (by decide +kernel : decode cX11_witnesses 32 = .ok (.bipush (-2), 2))) (hv := by decide)) (
   sndC (sd_aload_n (hi := rfl) (hd := (by decide +kernel : decode cX11_witnesses 35 = .ok (.aload_n 0, 1)))) (
   sndC (sd_get (C := RX11) (T := TX11) (N := 41) (hc := rfl) (hin0 := iX11) (hk := by decide) (hlink := w_1051) (hd := (by decide +kernel : decode cX11_witnesses 36 = .ok (.getfield 59, 3)))) (
   sndC (sd_iload_n (hi := rfl) (hd := (by decide +kernel : decode cX11_witnesses 39 = .ok (.iload_n 1, 1)))) (
   sndC (sd_zald (hd := (by decide +kernel : decode cX11_witnesses 40 = .ok (.baload, 1)))) (
   sndC (sd_if_eq (ht := by decide) (hd := (by decide +kernel : decode cX11_witnesses 41 = .ok (.ifCond .eq 16, 3)))) (
   sndC (sd_aload_n (hi := rfl) (hd := (by decide +kernel : decode cX11_witnesses 44 = .ok (.aload_n 0, 1)))) (
   sndC (sd_get (C := RX11) (T := TX11) (N := 41) (hc := rfl) (hin0 := iX11) (hk := by decide) (hlink := w_1052) (hd := (by decide +kernel : decode cX11_witnesses 45 = .ok (.getfield 63, 3)))) (
   sndC (sd_iload_n (hi := rfl) (hd := (by decide +kernel : decode cX11_witnesses 48 = .ok (.iload_n 1, 1)))) (
   sndC (sd_iald (hd := (by decide +kernel : decode cX11_witnesses 49 = .ok (.iaload, 1)))) (
   sndC (sd_iload_n (hi := rfl) (hd := (by decide +kernel : decode cX11_witnesses 50 = .ok (.iload_n 2, 1)))) (
   sndC (sd_cmp_eq (ht := by decide) (hd := (by decide +kernel : decode cX11_witnesses 51 = .ok (.if_icmp .eq 6, 3)))) (
   sndC (sd_bipush (hd := (by decide +kernel : decode cX11_witnesses 54 = .ok (.bipush (-13), 2))) (hv := by decide)) (
   sndC (sd_aload_n (hi := rfl) (hd := (by decide +kernel : decode cX11_witnesses 57 = .ok (.aload_n 0, 1)))) (
   sndC (sd_get (C := RX11) (T := TX11) (N := 41) (hc := rfl) (hin0 := iX11) (hk := by decide) (hlink := w_1051) (hd := (by decide +kernel : decode cX11_witnesses 58 = .ok (.getfield 59, 3)))) (
   sndC (sd_iload_n (hi := rfl) (hd := (by decide +kernel : decode cX11_witnesses 61 = .ok (.iload_n 1, 1)))) (
   sndC (sd_zald (hd := (by decide +kernel : decode cX11_witnesses 62 = .ok (.baload, 1)))) (
   sndC (sd_if_ne (ht := by decide) (hd := (by decide +kernel : decode cX11_witnesses 63 = .ok (.ifCond .ne 6, 3)))) (
   sndC (sd_bipush (hd := (by decide +kernel : decode cX11_witnesses 66 = .ok (.bipush (-11), 2))) (hv := by decide)) (
   sndC (sd_iconst (hd := (by decide +kernel : decode cX11_witnesses 69 = .ok (.iconst 0, 1))) (hv := by decide)) (
   sndC (sd_istore (hd := (by decide +kernel : decode cX11_witnesses 70 = .ok (.istore 5, 2)))) (
   sndC (sd_iconst (hd := (by decide +kernel : decode cX11_witnesses 72 = .ok (.iconst 0, 1))) (hv := by decide)) (
   sndC (sd_istore (hd := (by decide +kernel : decode cX11_witnesses 73 = .ok (.istore 6, 2)))) (
   sndC (sd_iload (hd := (by decide +kernel : decode cX11_witnesses 75 = .ok (.iload 6, 2)))) (
   sndC (sd_iload (hd := (by decide +kernel : decode cX11_witnesses 77 = .ok (.iload 4, 2)))) (
   sndC (sd_cmp_ge (ht := by decide) (hd := (by decide +kernel : decode cX11_witnesses 79 = .ok (.if_icmp .ge 88, 3)))) (
   sndC (sd_iload_n (hi := rfl) (hd := (by decide +kernel : decode cX11_witnesses 82 = .ok (.iload_n 3, 1)))) (
   sndC (sd_if_lt (ht := by decide) (hd := (by decide +kernel : decode cX11_witnesses 83 = .ok (.ifCond .lt 20, 3)))) (
   sndC (sd_iload_n (hi := rfl) (hd := (by decide +kernel : decode cX11_witnesses 86 = .ok (.iload_n 3, 1)))) (
   sndC (sd_aload_n (hi := rfl) (hd := (by decide +kernel : decode cX11_witnesses 87 = .ok (.aload_n 0, 1)))) (
   sndC (sd_get (C := RX11) (T := TX11) (N := 41) (hc := rfl) (hin0 := iX11) (hk := by decide) (hlink := w_1053) (hd := (by decide +kernel : decode cX11_witnesses 88 = .ok (.getfield 66, 3)))) (
   sndC (sd_iload_n (hi := rfl) (hd := (by decide +kernel : decode cX11_witnesses 91 = .ok (.iload_n 1, 1)))) (
   sndC (sd_iald (hd := (by decide +kernel : decode cX11_witnesses 92 = .ok (.iaload, 1)))) (
   sndC (sd_iconst (hd := (by decide +kernel : decode cX11_witnesses 93 = .ok (.iconst 3, 1))) (hv := by decide)) (
   sndC (sd_iload (hd := (by decide +kernel : decode cX11_witnesses 94 = .ok (.iload 6, 2)))) (
   sndC (sd_imul (hd := (by decide +kernel : decode cX11_witnesses 96 = .ok (.imul, 1)))) (
   sndC (sd_isub (hd := (by decide +kernel : decode cX11_witnesses 97 = .ok (.isub, 1)))) (
   sndC (sd_iconst (hd := (by decide +kernel : decode cX11_witnesses 98 = .ok (.iconst 3, 1))) (hv := by decide)) (
   sndC (sd_isub (hd := (by decide +kernel : decode cX11_witnesses 99 = .ok (.isub, 1)))) (
   sndC (sd_cmp_le (ht := by decide) (hd := (by decide +kernel : decode cX11_witnesses 100 = .ok (.if_icmp .le 6, 3)))) (
   sndC (sd_bipush (hd := (by decide +kernel : decode cX11_witnesses 103 = .ok (.bipush (-12), 2))) (hv := by decide)) (
   sndC (sd_bipush (hd := (by decide +kernel : decode cX11_witnesses 106 = .ok (.bipush 40, 2))) (hv := by decide)) (
   sndC (sd_iload_n (hi := rfl) (hd := (by decide +kernel : decode cX11_witnesses 108 = .ok (.iload_n 1, 1)))) (
   sndC (sd_imul (hd := (by decide +kernel : decode cX11_witnesses 109 = .ok (.imul, 1)))) (
   sndC (sd_iload_n (hi := rfl) (hd := (by decide +kernel : decode cX11_witnesses 110 = .ok (.iload_n 3, 1)))) (
   sndC (sd_iadd (hd := (by decide +kernel : decode cX11_witnesses 111 = .ok (.iadd, 1)))) (
   sndC (sd_iconst (hd := (by decide +kernel : decode cX11_witnesses 112 = .ok (.iconst 3, 1))) (hv := by decide)) (
   sndC (sd_iload (hd := (by decide +kernel : decode cX11_witnesses 113 = .ok (.iload 6, 2)))) (
   sndC (sd_imul (hd := (by decide +kernel : decode cX11_witnesses 115 = .ok (.imul, 1)))) (
   sndC (sd_iadd (hd := (by decide +kernel : decode cX11_witnesses 116 = .ok (.iadd, 1)))) (
   sndC (sd_istore (hd := (by decide +kernel : decode cX11_witnesses 117 = .ok (.istore 7, 2)))) (
   sndC (sd_iload (hd := (by decide +kernel : decode cX11_witnesses 119 = .ok (.iload 5, 2)))) (
   sndC (sd_aload_n (hi := rfl) (hd := (by decide +kernel : decode cX11_witnesses 121 = .ok (.aload_n 0, 1)))) (
   sndC (sd_aload_n (hi := rfl) (hd := (by decide +kernel : decode cX11_witnesses 122 = .ok (.aload_n 0, 1)))) (
   sndC (sd_get (C := RX11) (T := TX11) (N := 41) (hc := rfl) (hin0 := iX11) (hk := by decide) (hlink := w_1054) (hd := (by decide +kernel : decode cX11_witnesses 123 = .ok (.getfield 69, 3)))) (
   sndC (sd_iload (hd := (by decide +kernel : decode cX11_witnesses 126 = .ok (.iload 7, 2)))) (
   sndC (sd_iald (hd := (by decide +kernel : decode cX11_witnesses 128 = .ok (.iaload, 1)))) (
   sndC (sd_aload_n (hi := rfl) (hd := (by decide +kernel : decode cX11_witnesses 129 = .ok (.aload_n 0, 1)))) (
   sndC (sd_get (C := RX11) (T := TX11) (N := 41) (hc := rfl) (hin0 := iX11) (hk := by decide) (hlink := w_1054) (hd := (by decide +kernel : decode cX11_witnesses 130 = .ok (.getfield 69, 3)))) (
   sndC (sd_iload (hd := (by decide +kernel : decode cX11_witnesses 133 = .ok (.iload 7, 2)))) (
   sndC (sd_iconst (hd := (by decide +kernel : decode cX11_witnesses 135 = .ok (.iconst 1, 1))) (hv := by decide)) (
   sndC (sd_iadd (hd := (by decide +kernel : decode cX11_witnesses 136 = .ok (.iadd, 1)))) (
   sndC (sd_iald (hd := (by decide +kernel : decode cX11_witnesses 137 = .ok (.iaload, 1)))) (
   sndC (sd_aload_n (hi := rfl) (hd := (by decide +kernel : decode cX11_witnesses 138 = .ok (.aload_n 0, 1)))) (
   sndC (sd_get (C := RX11) (T := TX11) (N := 41) (hc := rfl) (hin0 := iX11) (hk := by decide) (hlink := w_1054) (hd := (by decide +kernel : decode cX11_witnesses 139 = .ok (.getfield 69, 3)))) (
   sndC (sd_iload (hd := (by decide +kernel : decode cX11_witnesses 142 = .ok (.iload 7, 2)))) (
   sndC (sd_iconst (hd := (by decide +kernel : decode cX11_witnesses 144 = .ok (.iconst 2, 1))) (hv := by decide)) (
   sndC (sd_iadd (hd := (by decide +kernel : decode cX11_witnesses 145 = .ok (.iadd, 1)))) (
   sndC (sd_iald (hd := (by decide +kernel : decode cX11_witnesses 146 = .ok (.iaload, 1)))) (
   sndC (sd_if_lt (ht := by decide) (hd := (by decide +kernel : decode cX11_witnesses 150 = .ok (.ifCond .lt 7, 3)))) (
   sndC (sd_iconst (hd := (by decide +kernel : decode cX11_witnesses 153 = .ok (.iconst 1, 1))) (hv := by decide)) (
   sndC (sd_goto (ht := by decide) (hd := (by decide +kernel : decode cX11_witnesses 154 = .ok (.goto 4, 3)))) (
   sndC (sd_iconst (hd := (by decide +kernel : decode cX11_witnesses 157 = .ok (.iconst 0, 1))) (hv := by decide)) (
   sndC (sd_iadd (hd := (by decide +kernel : decode cX11_witnesses 158 = .ok (.iadd, 1)))) (
   sndC (sd_istore (hd := (by decide +kernel : decode cX11_witnesses 159 = .ok (.istore 5, 2)))) (
   sndC (sd_iinc (hv := by decide) (hd := (by decide +kernel : decode cX11_witnesses 161 = .ok (.iinc 6 1, 3)))) (
   sndC (sd_goto (ht := by decide) (hd := (by decide +kernel : decode cX11_witnesses 164 = .ok (.goto (-89), 3)))) (
   sndC (sd_iload (hd := (by decide +kernel : decode cX11_witnesses 167 = .ok (.iload 5, 2)))) (
   sndN))))))))))))))))))))))))))))))))))))))))))))))))))))))))))))))))))))))))))))))))))))))))))⟩
theorem kX11_witnesses_1 : CallAt mX11_witnesses 1 1 mX11_isSheet 1 := ⟨by decide +kernel, ⟨_, (by decide +kernel : decode cX11_witnesses 1 = .ok (.invokestatic 412, 3)), w_1511, w_1512⟩⟩
theorem kX11_witnesses_13 : CallAt mX11_witnesses 13 1 mX11_in 3 := ⟨by decide +kernel, ⟨_, (by decide +kernel : decode cX11_witnesses 13 = .ok (.invokestatic 82, 3)), w_1144, w_1145⟩⟩
theorem kX11_witnesses_26 : CallAt mX11_witnesses 26 1 mX11_in 3 := ⟨by decide +kernel, ⟨_, (by decide +kernel : decode cX11_witnesses 26 = .ok (.invokestatic 82, 3)), w_1144, w_1145⟩⟩
theorem kX11_witnesses_147 : CallAt mX11_witnesses 147 0 mX11_witness 3 := ⟨by decide +kernel, ⟨_, (by decide +kernel : decode cX11_witnesses 147 = .ok (.invokevirtual 448, 3)), w_1577, w_1386, w_1387⟩⟩

set_option maxRecDepth 20000 in
theorem GX11_over : Good mX11_over := ⟨by decide +kernel, List.mem_of_getElem? (i := 1584) (by decide +kernel), inX11, ⟨by decide +kernel, by decide +kernel⟩, by decide, show ∀ q ∈ tX11_over, Snd mX11_over q.1 q.2 from
  sndC (sd_iload_n (hi := rfl) (hd := (by decide +kernel : decode cX11_over 0 = .ok (.iload_n 0, 1)))) (
   sndC (sd_if_ne (ht := by decide) (hd := (by decide +kernel : decode cX11_over 1 = .ok (.ifCond .ne 7, 3)))) (
   sndC (sd_iconst (hd := (by decide +kernel : decode cX11_over 4 = .ok (.iconst (-1), 1))) (hv := by decide)) (
   sndC (sd_goto (ht := by decide) (hd := (by decide +kernel : decode cX11_over 5 = .ok (.goto 22, 3)))) (
   sndC (sd_iload_n (hi := rfl) (hd := (by decide +kernel : decode cX11_over 8 = .ok (.iload_n 0, 1)))) (
   sndC (sd_iconst (hd := (by decide +kernel : decode cX11_over 9 = .ok (.iconst 3, 1))) (hv := by decide)) (
   sndC (sd_cmp_ne (ht := by decide) (hd := (by decide +kernel : decode cX11_over 10 = .ok (.if_icmp .ne 7, 3)))) (
   sndC (sd_iconst (hd := (by decide +kernel : decode cX11_over 13 = .ok (.iconst 1, 1))) (hv := by decide)) (
   sndC (sd_goto (ht := by decide) (hd := (by decide +kernel : decode cX11_over 14 = .ok (.goto 13, 3)))) (
   sndC (sd_iload_n (hi := rfl) (hd := (by decide +kernel : decode cX11_over 17 = .ok (.iload_n 0, 1)))) (
   sndC (sd_iconst (hd := (by decide +kernel : decode cX11_over 18 = .ok (.iconst 4, 1))) (hv := by decide)) (
   sndC (sd_cmp_ne (ht := by decide) (hd := (by decide +kernel : decode cX11_over 19 = .ok (.if_icmp .ne 7, 3)))) (
   sndC (sd_iconst (hd := (by decide +kernel : decode cX11_over 22 = .ok (.iconst 2, 1))) (hv := by decide)) (
   sndC (sd_goto (ht := by decide) (hd := (by decide +kernel : decode cX11_over 23 = .ok (.goto 4, 3)))) (
   sndC (sd_iconst (hd := (by decide +kernel : decode cX11_over 26 = .ok (.iconst 0, 1))) (hv := by decide)) (
   sndN)))))))))))))))⟩


set_option maxRecDepth 20000 in
theorem GX11_taken : Good mX11_taken := ⟨by decide +kernel, List.mem_of_getElem? (i := 1581) (by decide +kernel), inX11, ⟨by decide +kernel, by decide +kernel⟩, by decide, show ∀ q ∈ tX11_taken, Snd mX11_taken q.1 q.2 from
  sndC (sd_iload_n (hi := rfl) (hd := (by decide +kernel : decode cX11_taken 0 = .ok (.iload_n 2, 1)))) (
   sndC (sd_i2l (hd := (by decide +kernel : decode cX11_taken 1 = .ok (.i2l, 1)))) (
   sndC (sd_lconst (hd := (by decide +kernel : decode cX11_taken 2 = .ok (.lconst 0, 1))) (hv := by decide)) (
   sndC (sd_ldc2 (hw := w_1154) (hd := (by decide +kernel : decode cX11_taken 3 = .ok (.ldc2_w 86, 3)))) (
   sndC (sd_if_ne (ht := by decide) (hd := (by decide +kernel : decode cX11_taken 9 = .ok (.ifCond .ne 6, 3)))) (
   sndC (sd_bipush (hd := (by decide +kernel : decode cX11_taken 12 = .ok (.bipush (-2), 2))) (hv := by decide)) (
   sndC (sd_aload_n (hi := rfl) (hd := (by decide +kernel : decode cX11_taken 15 = .ok (.aload_n 0, 1)))) (
   sndC (sd_iload_n (hi := rfl) (hd := (by decide +kernel : decode cX11_taken 16 = .ok (.iload_n 1, 1)))) (
   sndC (sd_if_ne (ht := by decide) (hd := (by decide +kernel : decode cX11_taken 20 = .ok (.ifCond .ne 6, 3)))) (
   sndC (sd_bipush (hd := (by decide +kernel : decode cX11_taken 23 = .ok (.bipush (-11), 2))) (hv := by decide)) (
   sndC (sd_aload_n (hi := rfl) (hd := (by decide +kernel : decode cX11_taken 26 = .ok (.aload_n 0, 1)))) (
   sndC (sd_get (C := RX11) (T := TX11) (N := 41) (hc := rfl) (hin0 := iX11) (hk := by decide) (hlink := w_1023) (hd := (by decide +kernel : decode cX11_taken 27 = .ok (.getfield 29, 3)))) (
   sndC (sd_iload_n (hi := rfl) (hd := (by decide +kernel : decode cX11_taken 30 = .ok (.iload_n 1, 1)))) (
   sndC (sd_iald (hd := (by decide +kernel : decode cX11_taken 31 = .ok (.iaload, 1)))) (
   sndC (sd_istore_n (hi := rfl) (hd := (by decide +kernel : decode cX11_taken 32 = .ok (.istore_n 3, 1)))) (
   sndC (sd_iload_n (hi := rfl) (hd := (by decide +kernel : decode cX11_taken 33 = .ok (.iload_n 3, 1)))) (
   sndC (sd_iconst (hd := (by decide +kernel : decode cX11_taken 34 = .ok (.iconst (-1), 1))) (hv := by decide)) (
   sndC (sd_cmp_eq (ht := by decide) (hd := (by decide +kernel : decode cX11_taken 35 = .ok (.if_icmp .eq 16, 3)))) (
   sndC (sd_iload_n (hi := rfl) (hd := (by decide +kernel : decode cX11_taken 38 = .ok (.iload_n 3, 1)))) (
   sndC (sd_iload_n (hi := rfl) (hd := (by decide +kernel : decode cX11_taken 39 = .ok (.iload_n 2, 1)))) (
   sndC (sd_cmp_eq (ht := by decide) (hd := (by decide +kernel : decode cX11_taken 40 = .ok (.if_icmp .eq 11, 3)))) (
   sndC (sd_iload_n (hi := rfl) (hd := (by decide +kernel : decode cX11_taken 43 = .ok (.iload_n 3, 1)))) (
   sndC (sd_istore_n (hi := rfl) (hd := (by decide +kernel : decode cX11_taken 47 = .ok (.istore_n 3, 1)))) (
   sndC (sd_goto (ht := by decide) (hd := (by decide +kernel : decode cX11_taken 48 = .ok (.goto (-15), 3)))) (
   sndC (sd_iload_n (hi := rfl) (hd := (by decide +kernel : decode cX11_taken 51 = .ok (.iload_n 3, 1)))) (
   sndC (sd_iload_n (hi := rfl) (hd := (by decide +kernel : decode cX11_taken 52 = .ok (.iload_n 2, 1)))) (
   sndC (sd_cmp_ne (ht := by decide) (hd := (by decide +kernel : decode cX11_taken 53 = .ok (.if_icmp .ne 14, 3)))) (
   sndC (sd_aload_n (hi := rfl) (hd := (by decide +kernel : decode cX11_taken 56 = .ok (.aload_n 0, 1)))) (
   sndC (sd_get (C := RX11) (T := TX11) (N := 41) (hc := rfl) (hin0 := iX11) (hk := by decide) (hlink := w_1024) (hd := (by decide +kernel : decode cX11_taken 57 = .ok (.getfield 32, 3)))) (
   sndC (sd_iconst (hd := (by decide +kernel : decode cX11_taken 60 = .ok (.iconst 3, 1))) (hv := by decide)) (
   sndC (sd_iload_n (hi := rfl) (hd := (by decide +kernel : decode cX11_taken 61 = .ok (.iload_n 1, 1)))) (
   sndC (sd_imul (hd := (by decide +kernel : decode cX11_taken 62 = .ok (.imul, 1)))) (
   sndC (sd_iald (hd := (by decide +kernel : decode cX11_taken 63 = .ok (.iaload, 1)))) (
   sndC (sd_goto (ht := by decide) (hd := (by decide +kernel : decode cX11_taken 64 = .ok (.goto 5, 3)))) (
   sndC (sd_bipush (hd := (by decide +kernel : decode cX11_taken 67 = .ok (.bipush (-13), 2))) (hv := by decide)) (
   sndN)))))))))))))))))))))))))))))))))))⟩
theorem kX11_taken_6 : CallAt mX11_taken 6 1 mX11_in 3 := ⟨by decide +kernel, ⟨_, (by decide +kernel : decode cX11_taken 6 = .ok (.invokestatic 82, 3)), w_1144, w_1145⟩⟩
theorem kX11_taken_17 : CallAt mX11_taken 17 0 mX11_isWitness 1 := ⟨by decide +kernel, ⟨_, (by decide +kernel : decode cX11_taken 17 = .ok (.invokevirtual 92, 3)), w_1155, w_1157, w_48⟩⟩
theorem kX11_taken_44 : CallAt mX11_taken 44 1 mX11_over 1 := ⟨by decide +kernel, ⟨_, (by decide +kernel : decode cX11_taken 44 = .ok (.invokestatic 451, 3)), w_1582, w_1583⟩⟩
