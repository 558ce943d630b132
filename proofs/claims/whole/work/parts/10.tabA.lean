/-! ===== printed by program: words, tables of the methods, call sites ===== -/
set_option maxRecDepth 20000 in
theorem GX0_init : Good mX0_init := ⟨by decide +kernel, List.mem_of_getElem? (i := 237) (by decide +kernel), inX0, ⟨by decide +kernel, by decide +kernel⟩, by decide, show ∀ q ∈ tX0_init, Snd mX0_init q.1 q.2 from
  sndC (sd_aload_n (hi := rfl) (hd := (by decide +kernel : decode cX0_init 0 = .ok (.aload_n 0, 1)))) (
   sndC (sd_objInit (hl := w_238) (hi0 := w_145) (hc0 := w_146) (hd := (by decide +kernel : decode cX0_init 1 = .ok (.invokespecial 3, 3)))) (
   sndC (sd_aload_n (hi := rfl) (hd := (by decide +kernel : decode cX0_init 4 = .ok (.aload_n 0, 1)))) (
   sndC (sd_bipush (hd := (by decide +kernel : decode cX0_init 5 = .ok (.bipush 6, 2))) (hv := by decide)) (
   sndC (sd_newI (hw0 := w_178) (hd := (by decide +kernel : decode cX0_init 7 = .ok (.newarray .int, 2)))) (
   sndC (sd_putAF (C := RX0) (T := TX0) (N := 8) (hc := rfl) (hin0 := iX0) (hk := by decide) (hlink := w_247) (ty0 := tyX0) (hty := tyX0_ok) (hnm := nmX0) (hfin := rfl) (hi2 := rfl) (hdecl := rfl) (hi := .inr ⟨_, rfl⟩) (hd := (by decide +kernel : decode cX0_init 9 = .ok (.putfield 9, 3)))) (
   sndC (sd_aload_n (hi := rfl) (hd := (by decide +kernel : decode cX0_init 12 = .ok (.aload_n 0, 1)))) (
   sndC (sd_bipush (hd := (by decide +kernel : decode cX0_init 13 = .ok (.bipush 6, 2))) (hv := by decide)) (
   sndC (sd_newI (hw0 := w_178) (hd := (by decide +kernel : decode cX0_init 15 = .ok (.newarray .int, 2)))) (
   sndC (sd_putAF (C := RX0) (T := TX0) (N := 8) (hc := rfl) (hin0 := iX0) (hk := by decide) (hlink := w_248) (ty0 := tyX0) (hty := tyX0_ok) (hnm := nmX0) (hfin := rfl) (hi2 := rfl) (hdecl := rfl) (hi := .inr ⟨_, rfl⟩) (hd := (by decide +kernel : decode cX0_init 17 = .ok (.putfield 15, 3)))) (
   sndC (sd_aload_n (hi := rfl) (hd := (by decide +kernel : decode cX0_init 20 = .ok (.aload_n 0, 1)))) (
   sndC (sd_bipush (hd := (by decide +kernel : decode cX0_init 21 = .ok (.bipush 6, 2))) (hv := by decide)) (
   sndC (sd_newI (hw0 := w_178) (hd := (by decide +kernel : decode cX0_init 23 = .ok (.newarray .int, 2)))) (
   sndC (sd_putAF (C := RX0) (T := TX0) (N := 8) (hc := rfl) (hin0 := iX0) (hk := by decide) (hlink := w_249) (ty0 := tyX0) (hty := tyX0_ok) (hnm := nmX0) (hfin := rfl) (hi2 := rfl) (hdecl := rfl) (hi := .inr ⟨_, rfl⟩) (hd := (by decide +kernel : decode cX0_init 25 = .ok (.putfield 18, 3)))) (
   sndC (sd_aload_n (hi := rfl) (hd := (by decide +kernel : decode cX0_init 28 = .ok (.aload_n 0, 1)))) (
   sndC (sd_bipush (hd := (by decide +kernel : decode cX0_init 29 = .ok (.bipush 6, 2))) (hv := by decide)) (
   sndC (sd_newI (hw0 := w_178) (hd := (by decide +kernel : decode cX0_init 31 = .ok (.newarray .int, 2)))) (
   sndC (sd_putAF (C := RX0) (T := TX0) (N := 8) (hc := rfl) (hin0 := iX0) (hk := by decide) (hlink := w_250) (ty0 := tyX0) (hty := tyX0_ok) (hnm := nmX0) (hfin := rfl) (hi2 := rfl) (hdecl := rfl) (hi := .inr ⟨_, rfl⟩) (hd := (by decide +kernel : decode cX0_init 33 = .ok (.putfield 21, 3)))) (
   sndN))))))))))))))))))⟩


set_option maxRecDepth 20000 in
theorem GX0_keep : Good mX0_keep := ⟨by decide +kernel, List.mem_of_getElem? (i := 953) (by decide +kernel), inX0, ⟨by decide +kernel, by decide +kernel⟩, by decide, show ∀ q ∈ tX0_keep, Snd mX0_keep q.1 q.2 from
  sndC (sd_aload_n (hi := rfl) (hd := (by decide +kernel : decode cX0_keep 0 = .ok (.aload_n 0, 1)))) (
   sndC (sd_iconst (hd := (by decide +kernel : decode cX0_keep 1 = .ok (.iconst 1, 1))) (hv := by decide)) (
   sndC (sd_putZ (C := RX0) (T := TX0) (N := 8) (hc := rfl) (hin0 := iX0) (hk := by decide) (hlink := w_239) (ty0 := tyX0) (hty := tyX0_ok) (hnm := nmX0) (hfin := rfl) (hi := rfl) (hd := (by decide +kernel : decode cX0_keep 2 = .ok (.putfield 24, 3)))) (
   sndC (sd_aload_n (hi := rfl) (hd := (by decide +kernel : decode cX0_keep 5 = .ok (.aload_n 0, 1)))) (
   sndC (sd_iload_n (hi := rfl) (hd := (by decide +kernel : decode cX0_keep 6 = .ok (.iload_n 2, 1)))) (
   sndC (sd_putI (C := RX0) (T := TX0) (N := 8) (hc := rfl) (hin0 := iX0) (hk := by decide) (hlink := w_241) (ty0 := tyX0) (hty := tyX0_ok) (hnm := nmX0) (hfin := rfl) (hi := rfl) (hd := (by decide +kernel : decode cX0_keep 7 = .ok (.putfield 28, 3)))) (
   sndC (sd_aload_n (hi := rfl) (hd := (by decide +kernel : decode cX0_keep 10 = .ok (.aload_n 0, 1)))) (
   sndC (sd_iload_n (hi := rfl) (hd := (by decide +kernel : decode cX0_keep 11 = .ok (.iload_n 3, 1)))) (
   sndC (sd_putI (C := RX0) (T := TX0) (N := 8) (hc := rfl) (hin0 := iX0) (hk := by decide) (hlink := w_243) (ty0 := tyX0) (hty := tyX0_ok) (hnm := nmX0) (hfin := rfl) (hi := rfl) (hd := (by decide +kernel : decode cX0_keep 12 = .ok (.putfield 32, 3)))) (
   sndC (sd_aload_n (hi := rfl) (hd := (by decide +kernel : decode cX0_keep 15 = .ok (.aload_n 0, 1)))) (
   sndC (sd_iload (hd := (by decide +kernel : decode cX0_keep 16 = .ok (.iload 5, 2)))) (
   sndC (sd_putI (C := RX0) (T := TX0) (N := 8) (hc := rfl) (hin0 := iX0) (hk := by decide) (hlink := w_245) (ty0 := tyX0) (hty := tyX0_ok) (hnm := nmX0) (hfin := rfl) (hi := rfl) (hd := (by decide +kernel : decode cX0_keep 18 = .ok (.putfield 35, 3)))) (
   sndC (sd_iconst (hd := (by decide +kernel : decode cX0_keep 21 = .ok (.iconst 0, 1))) (hv := by decide)) (
   sndC (sd_istore (hd := (by decide +kernel : decode cX0_keep 22 = .ok (.istore 6, 2)))) (
   sndC (sd_iload (hd := (by decide +kernel : decode cX0_keep 24 = .ok (.iload 6, 2)))) (
   sndC (sd_bipush (hd := (by decide +kernel : decode cX0_keep 26 = .ok (.bipush 6, 2))) (hv := by decide)) (
   sndC (sd_cmp_ge (ht := by decide) (hd := (by decide +kernel : decode cX0_keep 28 = .ok (.if_icmp .ge 24, 3)))) (
   sndC (sd_aload_n (hi := rfl) (hd := (by decide +kernel : decode cX0_keep 31 = .ok (.aload_n 0, 1)))) (
   sndC (sd_get (C := RX0) (T := TX0) (N := 8) (hc := rfl) (hin0 := iX0) (hk := by decide) (hlink := w_247) (hd := (by decide +kernel : decode cX0_keep 32 = .ok (.getfield 9, 3)))) (
   sndC (sd_iload (hd := (by decide +kernel : decode cX0_keep 35 = .ok (.iload 6, 2)))) (
   sndC (sd_aload_n (hi := rfl) (hd := (by decide +kernel : decode cX0_keep 37 = .ok (.aload_n 1, 1)))) (
   sndC (sd_iload (hd := (by decide +kernel : decode cX0_keep 38 = .ok (.iload 6, 2)))) (
   sndC (sd_iinc (hv := by decide) (hd := (by decide +kernel : decode cX0_keep 46 = .ok (.iinc 6 1, 3)))) (
   sndC (sd_goto (ht := by decide) (hd := (by decide +kernel : decode cX0_keep 49 = .ok (.goto (-25), 3)))) (
   sndC (sd_iconst (hd := (by decide +kernel : decode cX0_keep 52 = .ok (.iconst 0, 1))) (hv := by decide)) (
   sndC (sd_istore (hd := (by decide +kernel : decode cX0_keep 53 = .ok (.istore 6, 2)))) (
   sndC (sd_iload (hd := (by decide +kernel : decode cX0_keep 55 = .ok (.iload 6, 2)))) (
   sndC (sd_aload_n (hi := rfl) (hd := (by decide +kernel : decode cX0_keep 57 = .ok (.aload_n 0, 1)))) (
   sndC (sd_get (C := RX0) (T := TX0) (N := 8) (hc := rfl) (hin0 := iX0) (hk := by decide) (hlink := w_245) (hd := (by decide +kernel : decode cX0_keep 58 = .ok (.getfield 35, 3)))) (
   sndC (sd_cmp_ge (ht := by decide) (hd := (by decide +kernel : decode cX0_keep 61 = .ok (.if_icmp .ge 76, 3)))) (
   sndC (sd_iload (hd := (by decide +kernel : decode cX0_keep 64 = .ok (.iload 6, 2)))) (
   sndC (sd_aload (hd := (by decide +kernel : decode cX0_keep 66 = .ok (.aload 4, 2)))) (
   sndC (sd_len (hd := (by decide +kernel : decode cX0_keep 68 = .ok (.arraylength, 1)))) (
   sndC (sd_cmp_ge (ht := by decide) (hd := (by decide +kernel : decode cX0_keep 69 = .ok (.if_icmp .ge 68, 3)))) (
   sndC (sd_aload (hd := (by decide +kernel : decode cX0_keep 72 = .ok (.aload 4, 2)))) (
   sndC (sd_iload (hd := (by decide +kernel : decode cX0_keep 74 = .ok (.iload 6, 2)))) (
   sndC (sd_qald (hd := (by decide +kernel : decode cX0_keep 76 = .ok (.aaload, 1)))) (
   sndC (sd_ifnull (ht := by decide) (hd := (by decide +kernel : decode cX0_keep 77 = .ok (.ifnull 54, 3)))) (
   sndC (sd_aload_n (hi := rfl) (hd := (by decide +kernel : decode cX0_keep 80 = .ok (.aload_n 0, 1)))) (
   sndC (sd_get (C := RX0) (T := TX0) (N := 8) (hc := rfl) (hin0 := iX0) (hk := by decide) (hlink := w_248) (hd := (by decide +kernel : decode cX0_keep 81 = .ok (.getfield 15, 3)))) (
   sndC (sd_iload (hd := (by decide +kernel : decode cX0_keep 84 = .ok (.iload 6, 2)))) (
   sndC (sd_aload (hd := (by decide +kernel : decode cX0_keep 86 = .ok (.aload 4, 2)))) (
   sndC (sd_iload (hd := (by decide +kernel : decode cX0_keep 88 = .ok (.iload 6, 2)))) (
   sndC (sd_qald (hd := (by decide +kernel : decode cX0_keep 90 = .ok (.aaload, 1)))) (
   sndC (sd_get (C := RX9) (T := TX9) (N := 10) (hc := rfl) (hin0 := iX9) (hk := by decide) (hlink := w_278) (hd := (by decide +kernel : decode cX0_keep 91 = .ok (.getfield 48, 3)))) (
   sndC (sd_aload_n (hi := rfl) (hd := (by decide +kernel : decode cX0_keep 97 = .ok (.aload_n 0, 1)))) (
   sndC (sd_get (C := RX0) (T := TX0) (N := 8) (hc := rfl) (hin0 := iX0) (hk := by decide) (hlink := w_249) (hd := (by decide +kernel : decode cX0_keep 98 = .ok (.getfield 18, 3)))) (
   sndC (sd_iload (hd := (by decide +kernel : decode cX0_keep 101 = .ok (.iload 6, 2)))) (
   sndC (sd_aload (hd := (by decide +kernel : decode cX0_keep 103 = .ok (.aload 4, 2)))) (
   sndC (sd_iload (hd := (by decide +kernel : decode cX0_keep 105 = .ok (.iload 6, 2)))) (
   sndC (sd_qald (hd := (by decide +kernel : decode cX0_keep 107 = .ok (.aaload, 1)))) (
   sndC (sd_get (C := RX9) (T := TX9) (N := 10) (hc := rfl) (hin0 := iX9) (hk := by decide) (hlink := w_281) (hd := (by decide +kernel : decode cX0_keep 108 = .ok (.getfield 53, 3)))) (
   sndC (sd_aload_n (hi := rfl) (hd := (by decide +kernel : decode cX0_keep 114 = .ok (.aload_n 0, 1)))) (
   sndC (sd_get (C := RX0) (T := TX0) (N := 8) (hc := rfl) (hin0 := iX0) (hk := by decide) (hlink := w_250) (hd := (by decide +kernel : decode cX0_keep 115 = .ok (.getfield 21, 3)))) (
   sndC (sd_iload (hd := (by decide +kernel : decode cX0_keep 118 = .ok (.iload 6, 2)))) (
   sndC (sd_aload (hd := (by decide +kernel : decode cX0_keep 120 = .ok (.aload 4, 2)))) (
   sndC (sd_iload (hd := (by decide +kernel : decode cX0_keep 122 = .ok (.iload 6, 2)))) (
   sndC (sd_qald (hd := (by decide +kernel : decode cX0_keep 124 = .ok (.aaload, 1)))) (
   sndC (sd_get (C := RX9) (T := TX9) (N := 10) (hc := rfl) (hin0 := iX9) (hk := by decide) (hlink := w_284) (hd := (by decide +kernel : decode cX0_keep 125 = .ok (.getfield 55, 3)))) (
   sndC (sd_iinc (hv := by decide) (hd := (by decide +kernel : decode cX0_keep 131 = .ok (.iinc 6 1, 3)))) (
   sndC (sd_goto (ht := by decide) (hd := (by decide +kernel : decode cX0_keep 134 = .ok (.goto (-79), 3)))) (
   sndN)))))))))))))))))))))))))))))))))))))))))))))))))))))))))))))⟩
theorem kX0_keep_40 : CallAt mX0_keep 40 1 mX5_at 2 := ⟨by decide +kernel, ⟨_, (by decide +kernel : decode cX0_keep 40 = .ok (.invokestatic 38, 3)), w_954, w_391⟩⟩
theorem kX0_keep_43 : CallAt mX0_keep 43 1 mX5_put 3 := ⟨by decide +kernel, ⟨_, (by decide +kernel : decode cX0_keep 43 = .ok (.invokestatic 44, 3)), w_955, w_432⟩⟩
theorem kX0_keep_94 : CallAt mX0_keep 94 1 mX5_put 3 := ⟨by decide +kernel, ⟨_, (by decide +kernel : decode cX0_keep 94 = .ok (.invokestatic 44, 3)), w_955, w_432⟩⟩
theorem kX0_keep_111 : CallAt mX0_keep 111 1 mX5_put 3 := ⟨by decide +kernel, ⟨_, (by decide +kernel : decode cX0_keep 111 = .ok (.invokestatic 44, 3)), w_955, w_432⟩⟩
theorem kX0_keep_128 : CallAt mX0_keep 128 1 mX5_put 3 := ⟨by decide +kernel, ⟨_, (by decide +kernel : decode cX0_keep 128 = .ok (.invokestatic 44, 3)), w_955, w_432⟩⟩

set_option maxRecDepth 20000 in
theorem GX0_giveBack : Good mX0_giveBack := ⟨by decide +kernel, List.mem_of_getElem? (i := 963) (by decide +kernel), inX0, ⟨by decide +kernel, by decide +kernel⟩, by decide, show ∀ q ∈ tX0_giveBack, Snd mX0_giveBack q.1 q.2 from
  sndC (sd_iconst (hd := (by decide +kernel : decode cX0_giveBack 0 = .ok (.iconst 0, 1))) (hv := by decide)) (
   sndC (sd_istore_n (hi := rfl) (hd := (by decide +kernel : decode cX0_giveBack 1 = .ok (.istore_n 3, 1)))) (
   sndC (sd_iload_n (hi := rfl) (hd := (by decide +kernel : decode cX0_giveBack 2 = .ok (.iload_n 3, 1)))) (
   sndC (sd_bipush (hd := (by decide +kernel : decode cX0_giveBack 3 = .ok (.bipush 6, 2))) (hv := by decide)) (
   sndC (sd_cmp_ge (ht := by decide) (hd := (by decide +kernel : decode cX0_giveBack 5 = .ok (.if_icmp .ge 22, 3)))) (
   sndC (sd_aload_n (hi := rfl) (hd := (by decide +kernel : decode cX0_giveBack 8 = .ok (.aload_n 1, 1)))) (
   sndC (sd_iload_n (hi := rfl) (hd := (by decide +kernel : decode cX0_giveBack 9 = .ok (.iload_n 3, 1)))) (
   sndC (sd_aload_n (hi := rfl) (hd := (by decide +kernel : decode cX0_giveBack 10 = .ok (.aload_n 0, 1)))) (
   sndC (sd_get (C := RX0) (T := TX0) (N := 8) (hc := rfl) (hin0 := iX0) (hk := by decide) (hlink := w_247) (hd := (by decide +kernel : decode cX0_giveBack 11 = .ok (.getfield 9, 3)))) (
   sndC (sd_iload_n (hi := rfl) (hd := (by decide +kernel : decode cX0_giveBack 14 = .ok (.iload_n 3, 1)))) (
   sndC (sd_iinc (hv := by decide) (hd := (by decide +kernel : decode cX0_giveBack 21 = .ok (.iinc 3 1, 3)))) (
   sndC (sd_goto (ht := by decide) (hd := (by decide +kernel : decode cX0_giveBack 24 = .ok (.goto (-22), 3)))) (
   sndC (sd_iconst (hd := (by decide +kernel : decode cX0_giveBack 27 = .ok (.iconst 0, 1))) (hv := by decide)) (
   sndC (sd_istore_n (hi := rfl) (hd := (by decide +kernel : decode cX0_giveBack 28 = .ok (.istore_n 3, 1)))) (
   sndC (sd_iload_n (hi := rfl) (hd := (by decide +kernel : decode cX0_giveBack 29 = .ok (.iload_n 3, 1)))) (
   sndC (sd_aload_n (hi := rfl) (hd := (by decide +kernel : decode cX0_giveBack 30 = .ok (.aload_n 0, 1)))) (
   sndC (sd_get (C := RX0) (T := TX0) (N := 8) (hc := rfl) (hin0 := iX0) (hk := by decide) (hlink := w_245) (hd := (by decide +kernel : decode cX0_giveBack 31 = .ok (.getfield 35, 3)))) (
   sndC (sd_cmp_ge (ht := by decide) (hd := (by decide +kernel : decode cX0_giveBack 34 = .ok (.if_icmp .ge 63, 3)))) (
   sndC (sd_iload_n (hi := rfl) (hd := (by decide +kernel : decode cX0_giveBack 37 = .ok (.iload_n 3, 1)))) (
   sndC (sd_aload_n (hi := rfl) (hd := (by decide +kernel : decode cX0_giveBack 38 = .ok (.aload_n 2, 1)))) (
   sndC (sd_len (hd := (by decide +kernel : decode cX0_giveBack 39 = .ok (.arraylength, 1)))) (
   sndC (sd_cmp_ge (ht := by decide) (hd := (by decide +kernel : decode cX0_giveBack 40 = .ok (.if_icmp .ge 57, 3)))) (
   sndC (sd_aload_n (hi := rfl) (hd := (by decide +kernel : decode cX0_giveBack 43 = .ok (.aload_n 2, 1)))) (
   sndC (sd_iload_n (hi := rfl) (hd := (by decide +kernel : decode cX0_giveBack 44 = .ok (.iload_n 3, 1)))) (
   sndC (sd_qald (hd := (by decide +kernel : decode cX0_giveBack 45 = .ok (.aaload, 1)))) (
   sndC (sd_ifnull (ht := by decide) (hd := (by decide +kernel : decode cX0_giveBack 46 = .ok (.ifnull 45, 3)))) (
   sndC (sd_aload_n (hi := rfl) (hd := (by decide +kernel : decode cX0_giveBack 49 = .ok (.aload_n 2, 1)))) (
   sndC (sd_iload_n (hi := rfl) (hd := (by decide +kernel : decode cX0_giveBack 50 = .ok (.iload_n 3, 1)))) (
   sndC (sd_qald (hd := (by decide +kernel : decode cX0_giveBack 51 = .ok (.aaload, 1)))) (
   sndC (sd_aload_n (hi := rfl) (hd := (by decide +kernel : decode cX0_giveBack 52 = .ok (.aload_n 0, 1)))) (
   sndC (sd_get (C := RX0) (T := TX0) (N := 8) (hc := rfl) (hin0 := iX0) (hk := by decide) (hlink := w_248) (hd := (by decide +kernel : decode cX0_giveBack 53 = .ok (.getfield 15, 3)))) (
   sndC (sd_iload_n (hi := rfl) (hd := (by decide +kernel : decode cX0_giveBack 56 = .ok (.iload_n 3, 1)))) (
   sndC (sd_putI (C := RX9) (T := TX9) (N := 10) (hc := rfl) (hin0 := iX9) (hk := by decide) (hlink := w_278) (ty0 := tyX9) (hty := tyX9_ok) (hnm := nmX9) (hfin := rfl) (hi := rfl) (hd := (by decide +kernel : decode cX0_giveBack 60 = .ok (.putfield 48, 3)))) (
   sndC (sd_aload_n (hi := rfl) (hd := (by decide +kernel : decode cX0_giveBack 63 = .ok (.aload_n 2, 1)))) (
   sndC (sd_iload_n (hi := rfl) (hd := (by decide +kernel : decode cX0_giveBack 64 = .ok (.iload_n 3, 1)))) (
   sndC (sd_qald (hd := (by decide +kernel : decode cX0_giveBack 65 = .ok (.aaload, 1)))) (
   sndC (sd_aload_n (hi := rfl) (hd := (by decide +kernel : decode cX0_giveBack 66 = .ok (.aload_n 0, 1)))) (
   sndC (sd_get (C := RX0) (T := TX0) (N := 8) (hc := rfl) (hin0 := iX0) (hk := by decide) (hlink := w_249) (hd := (by decide +kernel : decode cX0_giveBack 67 = .ok (.getfield 18, 3)))) (
   sndC (sd_iload_n (hi := rfl) (hd := (by decide +kernel : decode cX0_giveBack 70 = .ok (.iload_n 3, 1)))) (
   sndC (sd_putI (C := RX9) (T := TX9) (N := 10) (hc := rfl) (hin0 := iX9) (hk := by decide) (hlink := w_281) (ty0 := tyX9) (hty := tyX9_ok) (hnm := nmX9) (hfin := rfl) (hi := rfl) (hd := (by decide +kernel : decode cX0_giveBack 74 = .ok (.putfield 53, 3)))) (
   sndC (sd_aload_n (hi := rfl) (hd := (by decide +kernel : decode cX0_giveBack 77 = .ok (.aload_n 2, 1)))) (
   sndC (sd_iload_n (hi := rfl) (hd := (by decide +kernel : decode cX0_giveBack 78 = .ok (.iload_n 3, 1)))) (
   sndC (sd_qald (hd := (by decide +kernel : decode cX0_giveBack 79 = .ok (.aaload, 1)))) (
   sndC (sd_aload_n (hi := rfl) (hd := (by decide +kernel : decode cX0_giveBack 80 = .ok (.aload_n 0, 1)))) (
   sndC (sd_get (C := RX0) (T := TX0) (N := 8) (hc := rfl) (hin0 := iX0) (hk := by decide) (hlink := w_250) (hd := (by decide +kernel : decode cX0_giveBack 81 = .ok (.getfield 21, 3)))) (
   sndC (sd_iload_n (hi := rfl) (hd := (by decide +kernel : decode cX0_giveBack 84 = .ok (.iload_n 3, 1)))) (
   sndC (sd_putI (C := RX9) (T := TX9) (N := 10) (hc := rfl) (hin0 := iX9) (hk := by decide) (hlink := w_284) (ty0 := tyX9) (hty := tyX9_ok) (hnm := nmX9) (hfin := rfl) (hi := rfl) (hd := (by decide +kernel : decode cX0_giveBack 88 = .ok (.putfield 55, 3)))) (
   sndC (sd_iinc (hv := by decide) (hd := (by decide +kernel : decode cX0_giveBack 91 = .ok (.iinc 3 1, 3)))) (
   sndC (sd_goto (ht := by decide) (hd := (by decide +kernel : decode cX0_giveBack 94 = .ok (.goto (-65), 3)))) (
   sndN)))))))))))))))))))))))))))))))))))))))))))))))))⟩
theorem kX0_giveBack_15 : CallAt mX0_giveBack 15 1 mX5_at 2 := ⟨by decide +kernel, ⟨_, (by decide +kernel : decode cX0_giveBack 15 = .ok (.invokestatic 38, 3)), w_954, w_391⟩⟩
theorem kX0_giveBack_18 : CallAt mX0_giveBack 18 1 mX5_put 3 := ⟨by decide +kernel, ⟨_, (by decide +kernel : decode cX0_giveBack 18 = .ok (.invokestatic 44, 3)), w_955, w_432⟩⟩
theorem kX0_giveBack_57 : CallAt mX0_giveBack 57 1 mX5_at 2 := ⟨by decide +kernel, ⟨_, (by decide +kernel : decode cX0_giveBack 57 = .ok (.invokestatic 38, 3)), w_954, w_391⟩⟩
theorem kX0_giveBack_71 : CallAt mX0_giveBack 71 1 mX5_at 2 := ⟨by decide +kernel, ⟨_, (by decide +kernel : decode cX0_giveBack 71 = .ok (.invokestatic 38, 3)), w_954, w_391⟩⟩
theorem kX0_giveBack_85 : CallAt mX0_giveBack 85 1 mX5_at 2 := ⟨by decide +kernel, ⟨_, (by decide +kernel : decode cX0_giveBack 85 = .ok (.invokestatic 38, 3)), w_954, w_391⟩⟩

set_option maxRecDepth 20000 in
theorem GX1_isKind : Good mX1_isKind := ⟨by decide +kernel, List.mem_of_getElem? (i := 599) (by decide +kernel), inX1, ⟨by decide +kernel, by decide +kernel⟩, by decide, show ∀ q ∈ tX1_isKind, Snd mX1_isKind q.1 q.2 from
  sndC (sd_iload_n (hi := rfl) (hd := (by decide +kernel : decode cX1_isKind 0 = .ok (.iload_n 0, 1)))) (
   sndC (sd_if_lt (ht := by decide) (hd := (by decide +kernel : decode cX1_isKind 1 = .ok (.ifCond .lt 12, 3)))) (
   sndC (sd_iload_n (hi := rfl) (hd := (by decide +kernel : decode cX1_isKind 4 = .ok (.iload_n 0, 1)))) (
   sndC (sd_iconst (hd := (by decide +kernel : decode cX1_isKind 5 = .ok (.iconst 5, 1))) (hv := by decide)) (
   sndC (sd_cmp_gt (ht := by decide) (hd := (by decide +kernel : decode cX1_isKind 6 = .ok (.if_icmp .gt 7, 3)))) (
   sndC (sd_iconst (hd := (by decide +kernel : decode cX1_isKind 9 = .ok (.iconst 1, 1))) (hv := by decide)) (
   sndC (sd_goto (ht := by decide) (hd := (by decide +kernel : decode cX1_isKind 10 = .ok (.goto 4, 3)))) (
   sndC (sd_iconst (hd := (by decide +kernel : decode cX1_isKind 13 = .ok (.iconst 0, 1))) (hv := by decide)) (
   sndN))))))))⟩


set_option maxRecDepth 20000 in
theorem GX1_isUnder : Good mX1_isUnder := ⟨by decide +kernel, List.mem_of_getElem? (i := 1001) (by decide +kernel), inX1, ⟨by decide +kernel, by decide +kernel⟩, by decide, show ∀ q ∈ tX1_isUnder, Snd mX1_isUnder q.1 q.2 from
  sndC (sd_iload_n (hi := rfl) (hd := (by decide +kernel : decode cX1_isUnder 0 = .ok (.iload_n 0, 1)))) (
   sndC (sd_istore_n (hi := rfl) (hd := (by decide +kernel : decode cX1_isUnder 1 = .ok (.istore_n 2, 1)))) (
   sndC (sd_iconst (hd := (by decide +kernel : decode cX1_isUnder 2 = .ok (.iconst 0, 1))) (hv := by decide)) (
   sndC (sd_istore_n (hi := rfl) (hd := (by decide +kernel : decode cX1_isUnder 3 = .ok (.istore_n 3, 1)))) (
   sndC (sd_iload_n (hi := rfl) (hd := (by decide +kernel : decode cX1_isUnder 4 = .ok (.iload_n 3, 1)))) (
   sndC (sd_under (hl := w_1002) (hd := (by decide +kernel : decode cX1_isUnder 5 = .ok (.getstatic 11, 3)))) (
   sndC (sd_undLen (hd := (by decide +kernel : decode cX1_isUnder 8 = .ok (.arraylength, 1)))) (
   sndC (sd_cmp_ge (ht := by decide) (hd := (by decide +kernel : decode cX1_isUnder 9 = .ok (.if_icmp .ge 29, 3)))) (
   sndC (sd_iload_n (hi := rfl) (hd := (by decide +kernel : decode cX1_isUnder 12 = .ok (.iload_n 2, 1)))) (
   sndC (sd_if_eq (ht := by decide) (hd := (by decide +kernel : decode cX1_isUnder 16 = .ok (.ifCond .eq 22, 3)))) (
   sndC (sd_iload_n (hi := rfl) (hd := (by decide +kernel : decode cX1_isUnder 19 = .ok (.iload_n 2, 1)))) (
   sndC (sd_iload_n (hi := rfl) (hd := (by decide +kernel : decode cX1_isUnder 20 = .ok (.iload_n 1, 1)))) (
   sndC (sd_cmp_ne (ht := by decide) (hd := (by decide +kernel : decode cX1_isUnder 21 = .ok (.if_icmp .ne 5, 3)))) (
   sndC (sd_iconst (hd := (by decide +kernel : decode cX1_isUnder 24 = .ok (.iconst 1, 1))) (hv := by decide)) (
   sndC (sd_under (hl := w_1002) (hd := (by decide +kernel : decode cX1_isUnder 26 = .ok (.getstatic 11, 3)))) (
   sndC (sd_iload_n (hi := rfl) (hd := (by decide +kernel : decode cX1_isUnder 29 = .ok (.iload_n 2, 1)))) (
   sndC (sd_undLd (hd := (by decide +kernel : decode cX1_isUnder 30 = .ok (.iaload, 1)))) (
   sndC (sd_istore_n (hi := rfl) (hd := (by decide +kernel : decode cX1_isUnder 31 = .ok (.istore_n 2, 1)))) (
   sndC (sd_iinc (hv := by decide) (hd := (by decide +kernel : decode cX1_isUnder 32 = .ok (.iinc 3 1, 3)))) (
   sndC (sd_goto (ht := by decide) (hd := (by decide +kernel : decode cX1_isUnder 35 = .ok (.goto (-31), 3)))) (
   sndC (sd_iconst (hd := (by decide +kernel : decode cX1_isUnder 38 = .ok (.iconst 0, 1))) (hv := by decide)) (
   sndN)))))))))))))))))))))⟩
theorem kX1_isUnder_13 : CallAt mX1_isUnder 13 1 mX1_isKind 1 := ⟨by decide +kernel, ⟨_, (by decide +kernel : decode cX1_isUnder 13 = .ok (.invokestatic 15, 3)), w_1004, w_598⟩⟩

set_option maxRecDepth 20000 in
theorem GX1_telling : Good mX1_telling := ⟨by decide +kernel, List.mem_of_getElem? (i := 658) (by decide +kernel), inX1, ⟨by decide +kernel, by decide +kernel⟩, by decide, show ∀ q ∈ tX1_telling, Snd mX1_telling q.1 q.2 from
  sndC (sd_iload_n (hi := rfl) (hd := (by decide +kernel : decode cX1_telling 0 = .ok (.iload_n 3, 1)))) (
   sndC (sd_aload_n (hi := rfl) (hd := (by decide +kernel : decode cX1_telling 1 = .ok (.aload_n 1, 1)))) (
   sndC (sd_get (C := RX3) (T := TX3) (N := 7) (hc := rfl) (hin0 := iX3) (hk := by decide) (hlink := w_190) (hd := (by decide +kernel : decode cX1_telling 2 = .ok (.getfield 19, 3)))) (
   sndC (sd_ishr (hd := (by decide +kernel : decode cX1_telling 5 = .ok (.ishr, 1)))) (
   sndC (sd_iconst (hd := (by decide +kernel : decode cX1_telling 6 = .ok (.iconst 1, 1))) (hv := by decide)) (
   sndC (sd_iand (hd := (by decide +kernel : decode cX1_telling 7 = .ok (.iand, 1)))) (
   sndC (sd_if_ne (ht := by decide) (hd := (by decide +kernel : decode cX1_telling 8 = .ok (.ifCond .ne 5, 3)))) (
   sndC (sd_iconst (hd := (by decide +kernel : decode cX1_telling 11 = .ok (.iconst (-1), 1))) (hv := by decide)) (
   sndC (sd_iload_n (hi := rfl) (hd := (by decide +kernel : decode cX1_telling 13 = .ok (.iload_n 2, 1)))) (
   sndC (sd_tsw (hd := (by decide +kernel : decode cX1_telling 14 = .ok (.tableswitch 121 0 4 #[34, 59, 64, 72, 99], 34))) (hok := by decide +kernel)) (
   sndC (sd_aload_n (hi := rfl) (hd := (by decide +kernel : decode cX1_telling 48 = .ok (.aload_n 0, 1)))) (
   sndC (sd_iconst (hd := (by decide +kernel : decode cX1_telling 49 = .ok (.iconst 0, 1))) (hv := by decide)) (
   sndC (sd_aload_n (hi := rfl) (hd := (by decide +kernel : decode cX1_telling 50 = .ok (.aload_n 1, 1)))) (
   sndC (sd_aload_n (hi := rfl) (hd := (by decide +kernel : decode cX1_telling 54 = .ok (.aload_n 1, 1)))) (
   sndC (sd_get (C := RX3) (T := TX3) (N := 7) (hc := rfl) (hin0 := iX3) (hk := by decide) (hlink := w_192) (hd := (by decide +kernel : decode cX1_telling 55 = .ok (.getfield 31, 3)))) (
   sndC (sd_bipush (hd := (by decide +kernel : decode cX1_telling 58 = .ok (.bipush 10, 2))) (hv := by decide)) (
   sndC (sd_imul (hd := (by decide +kernel : decode cX1_telling 60 = .ok (.imul, 1)))) (
   sndC (sd_cmp_gt (ht := by decide) (hd := (by decide +kernel : decode cX1_telling 61 = .ok (.if_icmp .gt 10, 3)))) (
   sndC (sd_aload_n (hi := rfl) (hd := (by decide +kernel : decode cX1_telling 64 = .ok (.aload_n 1, 1)))) (
   sndC (sd_get (C := RX3) (T := TX3) (N := 7) (hc := rfl) (hin0 := iX3) (hk := by decide) (hlink := w_188) (hd := (by decide +kernel : decode cX1_telling 65 = .ok (.getfield 34, 3)))) (
   sndC (sd_goto (ht := by decide) (hd := (by decide +kernel : decode cX1_telling 68 = .ok (.goto 4, 3)))) (
   sndC (sd_iconst (hd := (by decide +kernel : decode cX1_telling 71 = .ok (.iconst (-1), 1))) (hv := by decide)) (
   sndC (sd_aload_n (hi := rfl) (hd := (by decide +kernel : decode cX1_telling 73 = .ok (.aload_n 1, 1)))) (
   sndC (sd_get (C := RX3) (T := TX3) (N := 7) (hc := rfl) (hin0 := iX3) (hk := by decide) (hlink := w_188) (hd := (by decide +kernel : decode cX1_telling 74 = .ok (.getfield 34, 3)))) (
   sndC (sd_aload_n (hi := rfl) (hd := (by decide +kernel : decode cX1_telling 78 = .ok (.aload_n 1, 1)))) (
   sndC (sd_get (C := RX3) (T := TX3) (N := 7) (hc := rfl) (hin0 := iX3) (hk := by decide) (hlink := w_188) (hd := (by decide +kernel : decode cX1_telling 79 = .ok (.getfield 34, 3)))) (
   sndC (sd_aload_n (hi := rfl) (hd := (by decide +kernel : decode cX1_telling 86 = .ok (.aload_n 0, 1)))) (
   sndC (sd_iconst (hd := (by decide +kernel : decode cX1_telling 87 = .ok (.iconst 0, 1))) (hv := by decide)) (
   sndC (sd_aload_n (hi := rfl) (hd := (by decide +kernel : decode cX1_telling 88 = .ok (.aload_n 1, 1)))) (
   sndC (sd_bipush (hd := (by decide +kernel : decode cX1_telling 92 = .ok (.bipush 20, 2))) (hv := by decide)) (
   sndC (sd_cmp_le (ht := by decide) (hd := (by decide +kernel : decode cX1_telling 94 = .ok (.if_icmp .le 14, 3)))) (
   sndC (sd_aload_n (hi := rfl) (hd := (by decide +kernel : decode cX1_telling 97 = .ok (.aload_n 1, 1)))) (
   sndC (sd_get (C := RX3) (T := TX3) (N := 7) (hc := rfl) (hin0 := iX3) (hk := by decide) (hlink := w_188) (hd := (by decide +kernel : decode cX1_telling 98 = .ok (.getfield 34, 3)))) (
   sndC (sd_iconst (hd := (by decide +kernel : decode cX1_telling 101 = .ok (.iconst 1, 1))) (hv := by decide)) (
   sndC (sd_iadd (hd := (by decide +kernel : decode cX1_telling 102 = .ok (.iadd, 1)))) (
   sndC (sd_iconst (hd := (by decide +kernel : decode cX1_telling 103 = .ok (.iconst 4, 1))) (hv := by decide)) (
   sndC (sd_irem (hd := (by decide +kernel : decode cX1_telling 104 = .ok (.irem, 1)))) (
   sndC (sd_goto (ht := by decide) (hd := (by decide +kernel : decode cX1_telling 105 = .ok (.goto 7, 3)))) (
   sndC (sd_aload_n (hi := rfl) (hd := (by decide +kernel : decode cX1_telling 108 = .ok (.aload_n 1, 1)))) (
   sndC (sd_get (C := RX3) (T := TX3) (N := 7) (hc := rfl) (hin0 := iX3) (hk := by decide) (hlink := w_188) (hd := (by decide +kernel : decode cX1_telling 109 = .ok (.getfield 34, 3)))) (
   sndC (sd_aload_n (hi := rfl) (hd := (by decide +kernel : decode cX1_telling 113 = .ok (.aload_n 1, 1)))) (
   sndC (sd_get (C := RX3) (T := TX3) (N := 7) (hc := rfl) (hin0 := iX3) (hk := by decide) (hlink := w_190) (hd := (by decide +kernel : decode cX1_telling 114 = .ok (.getfield 19, 3)))) (
   sndC (sd_iconst (hd := (by decide +kernel : decode cX1_telling 117 = .ok (.iconst 2, 1))) (hv := by decide)) (
   sndC (sd_irem (hd := (by decide +kernel : decode cX1_telling 118 = .ok (.irem, 1)))) (
   sndC (sd_iconst (hd := (by decide +kernel : decode cX1_telling 119 = .ok (.iconst 1, 1))) (hv := by decide)) (
   sndC (sd_cmp_ne (ht := by decide) (hd := (by decide +kernel : decode cX1_telling 120 = .ok (.if_icmp .ne 7, 3)))) (
   sndC (sd_iconst (hd := (by decide +kernel : decode cX1_telling 123 = .ok (.iconst (-1), 1))) (hv := by decide)) (
   sndC (sd_goto (ht := by decide) (hd := (by decide +kernel : decode cX1_telling 124 = .ok (.goto 10, 3)))) (
   sndC (sd_aload_n (hi := rfl) (hd := (by decide +kernel : decode cX1_telling 127 = .ok (.aload_n 1, 1)))) (
   sndC (sd_get (C := RX3) (T := TX3) (N := 7) (hc := rfl) (hin0 := iX3) (hk := by decide) (hlink := w_188) (hd := (by decide +kernel : decode cX1_telling 128 = .ok (.getfield 34, 3)))) (
   sndC (sd_iconst (hd := (by decide +kernel : decode cX1_telling 135 = .ok (.iconst (-1), 1))) (hv := by decide)) (
   sndN)))))))))))))))))))))))))))))))))))))))))))))))))))⟩
theorem kX1_telling_51 : CallAt mX1_telling 51 0 mX8_value 2 := ⟨by decide +kernel, ⟨_, (by decide +kernel : decode cX1_telling 51 = .ok (.invokevirtual 27, 3)), w_659, w_627, w_628⟩⟩
theorem kX1_telling_82 : CallAt mX1_telling 82 1 mX1_roughly 1 := ⟨by decide +kernel, ⟨_, (by decide +kernel : decode cX1_telling 82 = .ok (.invokestatic 37, 3)), w_660, w_661⟩⟩
theorem kX1_telling_89 : CallAt mX1_telling 89 0 mX8_value 2 := ⟨by decide +kernel, ⟨_, (by decide +kernel : decode cX1_telling 89 = .ok (.invokevirtual 27, 3)), w_659, w_627, w_628⟩⟩
theorem kX1_telling_131 : CallAt mX1_telling 131 1 mX1_roughly 1 := ⟨by decide +kernel, ⟨_, (by decide +kernel : decode cX1_telling 131 = .ok (.invokestatic 37, 3)), w_660, w_661⟩⟩

set_option maxRecDepth 20000 in
theorem GX1_roughly : Good mX1_roughly := ⟨by decide +kernel, List.mem_of_getElem? (i := 662) (by decide +kernel), inX1, ⟨by decide +kernel, by decide +kernel⟩, by decide, show ∀ q ∈ tX1_roughly, Snd mX1_roughly q.1 q.2 from
  sndC (sd_iconst (hd := (by decide +kernel : decode cX1_roughly 0 = .ok (.iconst 4, 1))) (hv := by decide)) (
   sndC (sd_iload_n (hi := rfl) (hd := (by decide +kernel : decode cX1_roughly 1 = .ok (.iload_n 0, 1)))) (
   sndC (sd_iconst (hd := (by decide +kernel : decode cX1_roughly 2 = .ok (.iconst 2, 1))) (hv := by decide)) (
   sndC (sd_idiv (hd := (by decide +kernel : decode cX1_roughly 3 = .ok (.idiv, 1)))) (
   sndC (sd_iadd (hd := (by decide +kernel : decode cX1_roughly 4 = .ok (.iadd, 1)))) (
   sndN)))))⟩


set_option maxRecDepth 20000 in
theorem GX1_price : Good mX1_price := ⟨by decide +kernel, List.mem_of_getElem? (i := 647) (by decide +kernel), inX1, ⟨by decide +kernel, by decide +kernel⟩, by decide, show ∀ q ∈ tX1_price, Snd mX1_price q.1 q.2 from
  sndC (sd_iload_n (hi := rfl) (hd := (by decide +kernel : decode cX1_price 0 = .ok (.iload_n 0, 1)))) (
   sndC (sd_tsw (hd := (by decide +kernel : decode cX1_price 1 = .ok (.tableswitch 47 1 5 #[35, 47, 35, 39, 43], 35))) (hok := by decide +kernel)) (
   sndC (sd_iload_n (hi := rfl) (hd := (by decide +kernel : decode cX1_price 36 = .ok (.iload_n 2, 1)))) (
   sndC (sd_iconst (hd := (by decide +kernel : decode cX1_price 37 = .ok (.iconst 2, 1))) (hv := by decide)) (
   sndC (sd_idiv (hd := (by decide +kernel : decode cX1_price 38 = .ok (.idiv, 1)))) (
   sndC (sd_iload_n (hi := rfl) (hd := (by decide +kernel : decode cX1_price 40 = .ok (.iload_n 2, 1)))) (
   sndC (sd_iload_n (hi := rfl) (hd := (by decide +kernel : decode cX1_price 41 = .ok (.iload_n 1, 1)))) (
   sndC (sd_iadd (hd := (by decide +kernel : decode cX1_price 42 = .ok (.iadd, 1)))) (
   sndC (sd_iload_n (hi := rfl) (hd := (by decide +kernel : decode cX1_price 44 = .ok (.iload_n 2, 1)))) (
   sndC (sd_iconst (hd := (by decide +kernel : decode cX1_price 45 = .ok (.iconst 2, 1))) (hv := by decide)) (
   sndC (sd_imul (hd := (by decide +kernel : decode cX1_price 46 = .ok (.imul, 1)))) (
   sndC (sd_iload_n (hi := rfl) (hd := (by decide +kernel : decode cX1_price 48 = .ok (.iload_n 2, 1)))) (
   sndN))))))))))))⟩


set_option maxRecDepth 20000 in
theorem GX3_init : Good mX3_init := ⟨by decide +kernel, List.mem_of_getElem? (i := 183) (by decide +kernel), inX3, ⟨by decide +kernel, by decide +kernel⟩, by decide, show ∀ q ∈ tX3_init, Snd mX3_init q.1 q.2 from
  sndC (sd_aload_n (hi := rfl) (hd := (by decide +kernel : decode cX3_init 0 = .ok (.aload_n 0, 1)))) (
   sndC (sd_objInit (hl := w_184) (hi0 := w_145) (hc0 := w_146) (hd := (by decide +kernel : decode cX3_init 1 = .ok (.invokespecial 3, 3)))) (
   sndC (sd_aload_n (hi := rfl) (hd := (by decide +kernel : decode cX3_init 4 = .ok (.aload_n 0, 1)))) (
   sndC (sd_sipush (hd := (by decide +kernel : decode cX3_init 5 = .ok (.sipush 160, 3))) (hv := by decide)) (
   sndC (sd_newI (hw0 := w_178) (hd := (by decide +kernel : decode cX3_init 8 = .ok (.newarray .int, 2)))) (
   sndC (sd_putAF (C := RX3) (T := TX3) (N := 7) (hc := rfl) (hin0 := iX3) (hk := by decide) (hlink := w_185) (ty0 := tyX3) (hty := tyX3_ok) (hnm := nmX3) (hfin := rfl) (hi2 := rfl) (hdecl := rfl) (hi := .inr ⟨_, rfl⟩) (hd := (by decide +kernel : decode cX3_init 10 = .ok (.putfield 9, 3)))) (
   sndN))))))⟩


set_option maxRecDepth 20000 in
theorem GX3_ofWitness : Good mX3_ofWitness := ⟨by decide +kernel, List.mem_of_getElem? (i := 615) (by decide +kernel), inX3, ⟨by decide +kernel, by decide +kernel⟩, by decide, show ∀ q ∈ tX3_ofWitness, Snd mX3_ofWitness q.1 q.2 from
  sndC (sd_aload_n (hi := rfl) (hd := (by decide +kernel : decode cX3_ofWitness 0 = .ok (.aload_n 0, 1)))) (
   sndC (sd_iload_n (hi := rfl) (hd := (by decide +kernel : decode cX3_ofWitness 1 = .ok (.iload_n 1, 1)))) (
   sndC (sd_putI (C := RX3) (T := TX3) (N := 7) (hc := rfl) (hin0 := iX3) (hk := by decide) (hlink := w_191) (ty0 := tyX3) (hty := tyX3_ok) (hnm := nmX3) (hfin := rfl) (hi := rfl) (hd := (by decide +kernel : decode cX3_ofWitness 2 = .ok (.putfield 15, 3)))) (
   sndC (sd_aload_n (hi := rfl) (hd := (by decide +kernel : decode cX3_ofWitness 5 = .ok (.aload_n 0, 1)))) (
   sndC (sd_iload_n (hi := rfl) (hd := (by decide +kernel : decode cX3_ofWitness 6 = .ok (.iload_n 2, 1)))) (
   sndC (sd_putI (C := RX3) (T := TX3) (N := 7) (hc := rfl) (hin0 := iX3) (hk := by decide) (hlink := w_194) (ty0 := tyX3) (hty := tyX3_ok) (hnm := nmX3) (hfin := rfl) (hi := rfl) (hd := (by decide +kernel : decode cX3_ofWitness 10 = .ok (.putfield 25, 3)))) (
   sndN))))))⟩
theorem kX3_ofWitness_7 : CallAt mX3_ofWitness 7 1 mJ6_bitCount_0f7a4 1 := ⟨by decide +kernel, ⟨_, (by decide +kernel : decode cX3_ofWitness 7 = .ok (.invokestatic 19, 3)), w_616, w_617⟩⟩

set_option maxRecDepth 20000 in
theorem GX3_ofStep : Good mX3_ofStep := ⟨by decide +kernel, List.mem_of_getElem? (i := 625) (by decide +kernel), inX3, ⟨by decide +kernel, by decide +kernel⟩, by decide, show ∀ q ∈ tX3_ofStep, Snd mX3_ofStep q.1 q.2 from
  sndC (sd_aload_n (hi := rfl) (hd := (by decide +kernel : decode cX3_ofStep 0 = .ok (.aload_n 0, 1)))) (
   sndC (sd_iload_n (hi := rfl) (hd := (by decide +kernel : decode cX3_ofStep 1 = .ok (.iload_n 1, 1)))) (
   sndC (sd_putI (C := RX3) (T := TX3) (N := 7) (hc := rfl) (hin0 := iX3) (hk := by decide) (hlink := w_189) (ty0 := tyX3) (hty := tyX3_ok) (hnm := nmX3) (hfin := rfl) (hi := rfl) (hd := (by decide +kernel : decode cX3_ofStep 2 = .ok (.putfield 28, 3)))) (
   sndC (sd_aload_n (hi := rfl) (hd := (by decide +kernel : decode cX3_ofStep 5 = .ok (.aload_n 0, 1)))) (
   sndC (sd_iload_n (hi := rfl) (hd := (by decide +kernel : decode cX3_ofStep 6 = .ok (.iload_n 2, 1)))) (
   sndC (sd_putI (C := RX3) (T := TX3) (N := 7) (hc := rfl) (hin0 := iX3) (hk := by decide) (hlink := w_187) (ty0 := tyX3) (hty := tyX3_ok) (hnm := nmX3) (hfin := rfl) (hi := rfl) (hd := (by decide +kernel : decode cX3_ofStep 7 = .ok (.putfield 31, 3)))) (
   sndC (sd_aload_n (hi := rfl) (hd := (by decide +kernel : decode cX3_ofStep 10 = .ok (.aload_n 0, 1)))) (
   sndC (sd_iload_n (hi := rfl) (hd := (by decide +kernel : decode cX3_ofStep 11 = .ok (.iload_n 3, 1)))) (
   sndC (sd_putI (C := RX3) (T := TX3) (N := 7) (hc := rfl) (hin0 := iX3) (hk := by decide) (hlink := w_193) (ty0 := tyX3) (hty := tyX3_ok) (hnm := nmX3) (hfin := rfl) (hi := rfl) (hd := (by decide +kernel : decode cX3_ofStep 12 = .ok (.putfield 34, 3)))) (
   sndC (sd_aload_n (hi := rfl) (hd := (by decide +kernel : decode cX3_ofStep 15 = .ok (.aload_n 0, 1)))) (
   sndC (sd_iload (hd := (by decide +kernel : decode cX3_ofStep 16 = .ok (.iload 4, 2)))) (
   sndC (sd_putI (C := RX3) (T := TX3) (N := 7) (hc := rfl) (hin0 := iX3) (hk := by decide) (hlink := w_195) (ty0 := tyX3) (hty := tyX3_ok) (hnm := nmX3) (hfin := rfl) (hi := rfl) (hd := (by decide +kernel : decode cX3_ofStep 18 = .ok (.putfield 37, 3)))) (
   sndN))))))))))))⟩


set_option maxRecDepth 20000 in
theorem GX3_named : Good mX3_named := ⟨by decide +kernel, List.mem_of_getElem? (i := 638) (by decide +kernel), inX3, ⟨by decide +kernel, by decide +kernel⟩, by decide, show ∀ q ∈ tX3_named, Snd mX3_named q.1 q.2 from
  sndC (sd_iload_n (hi := rfl) (hd := (by decide +kernel : decode cX3_named 0 = .ok (.iload_n 1, 1)))) (
   sndC (sd_tsw (hd := (by decide +kernel : decode cX3_named 1 = .ok (.tableswitch 60 (-5) (-1) #[55, 50, 45, 40, 35], 35))) (hok := by decide +kernel)) (
   sndC (sd_aload_n (hi := rfl) (hd := (by decide +kernel : decode cX3_named 36 = .ok (.aload_n 0, 1)))) (
   sndC (sd_get (C := RX3) (T := TX3) (N := 7) (hc := rfl) (hin0 := iX3) (hk := by decide) (hlink := w_187) (hd := (by decide +kernel : decode cX3_named 37 = .ok (.getfield 31, 3)))) (
   sndC (sd_aload_n (hi := rfl) (hd := (by decide +kernel : decode cX3_named 41 = .ok (.aload_n 0, 1)))) (
   sndC (sd_get (C := RX3) (T := TX3) (N := 7) (hc := rfl) (hin0 := iX3) (hk := by decide) (hlink := w_189) (hd := (by decide +kernel : decode cX3_named 42 = .ok (.getfield 28, 3)))) (
   sndC (sd_aload_n (hi := rfl) (hd := (by decide +kernel : decode cX3_named 46 = .ok (.aload_n 0, 1)))) (
   sndC (sd_get (C := RX3) (T := TX3) (N := 7) (hc := rfl) (hin0 := iX3) (hk := by decide) (hlink := w_191) (hd := (by decide +kernel : decode cX3_named 47 = .ok (.getfield 15, 3)))) (
   sndC (sd_aload_n (hi := rfl) (hd := (by decide +kernel : decode cX3_named 51 = .ok (.aload_n 0, 1)))) (
   sndC (sd_get (C := RX3) (T := TX3) (N := 7) (hc := rfl) (hin0 := iX3) (hk := by decide) (hlink := w_193) (hd := (by decide +kernel : decode cX3_named 52 = .ok (.getfield 34, 3)))) (
   sndC (sd_aload_n (hi := rfl) (hd := (by decide +kernel : decode cX3_named 56 = .ok (.aload_n 0, 1)))) (
   sndC (sd_get (C := RX3) (T := TX3) (N := 7) (hc := rfl) (hin0 := iX3) (hk := by decide) (hlink := w_194) (hd := (by decide +kernel : decode cX3_named 57 = .ok (.getfield 25, 3)))) (
   sndC (sd_aload_n (hi := rfl) (hd := (by decide +kernel : decode cX3_named 61 = .ok (.aload_n 0, 1)))) (
   sndC (sd_get (C := RX3) (T := TX3) (N := 7) (hc := rfl) (hin0 := iX3) (hk := by decide) (hlink := w_195) (hd := (by decide +kernel : decode cX3_named 62 = .ok (.getfield 37, 3)))) (
   sndN))))))))))))))⟩


set_option maxRecDepth 20000 in
theorem GX5_at : Good mX5_at := ⟨by decide +kernel, List.mem_of_getElem? (i := 392) (by decide +kernel), inX5, ⟨by decide +kernel, by decide +kernel⟩, by decide, show ∀ q ∈ tX5_at, Snd mX5_at q.1 q.2 from
  sndC (sd_iload_n (hi := rfl) (hd := (by decide +kernel : decode cX5_at 0 = .ok (.iload_n 1, 1)))) (
   sndC (sd_if_lt (ht := by decide) (hd := (by decide +kernel : decode cX5_at 1 = .ok (.ifCond .lt 15, 3)))) (
   sndC (sd_iload_n (hi := rfl) (hd := (by decide +kernel : decode cX5_at 4 = .ok (.iload_n 1, 1)))) (
   sndC (sd_aload_n (hi := rfl) (hd := (by decide +kernel : decode cX5_at 5 = .ok (.aload_n 0, 1)))) (
   sndC (sd_len (hd := (by decide +kernel : decode cX5_at 6 = .ok (.arraylength, 1)))) (
   sndC (sd_cmp_ge (ht := by decide) (hd := (by decide +kernel : decode cX5_at 7 = .ok (.if_icmp .ge 9, 3)))) (
   sndC (sd_aload_n (hi := rfl) (hd := (by decide +kernel : decode cX5_at 10 = .ok (.aload_n 0, 1)))) (
   sndC (sd_iload_n (hi := rfl) (hd := (by decide +kernel : decode cX5_at 11 = .ok (.iload_n 1, 1)))) (
   sndC (sd_iald (hd := (by decide +kernel : decode cX5_at 12 = .ok (.iaload, 1)))) (
   sndC (sd_goto (ht := by decide) (hd := (by decide +kernel : decode cX5_at 13 = .ok (.goto 4, 3)))) (
   sndC (sd_iconst (hd := (by decide +kernel : decode cX5_at 16 = .ok (.iconst 0, 1))) (hv := by decide)) (
   sndN)))))))))))⟩


set_option maxRecDepth 20000 in
theorem GX5_put : Good mX5_put := ⟨by decide +kernel, List.mem_of_getElem? (i := 433) (by decide +kernel), inX5, ⟨by decide +kernel, by decide +kernel⟩, by decide, show ∀ q ∈ tX5_put, Snd mX5_put q.1 q.2 from
  sndC (sd_iload_n (hi := rfl) (hd := (by decide +kernel : decode cX5_put 0 = .ok (.iload_n 1, 1)))) (
   sndC (sd_if_lt (ht := by decide) (hd := (by decide +kernel : decode cX5_put 1 = .ok (.ifCond .lt 13, 3)))) (
   sndC (sd_iload_n (hi := rfl) (hd := (by decide +kernel : decode cX5_put 4 = .ok (.iload_n 1, 1)))) (
   sndC (sd_aload_n (hi := rfl) (hd := (by decide +kernel : decode cX5_put 5 = .ok (.aload_n 0, 1)))) (
   sndC (sd_len (hd := (by decide +kernel : decode cX5_put 6 = .ok (.arraylength, 1)))) (
   sndC (sd_cmp_ge (ht := by decide) (hd := (by decide +kernel : decode cX5_put 7 = .ok (.if_icmp .ge 7, 3)))) (
   sndC (sd_aload_n (hi := rfl) (hd := (by decide +kernel : decode cX5_put 10 = .ok (.aload_n 0, 1)))) (
   sndC (sd_iload_n (hi := rfl) (hd := (by decide +kernel : decode cX5_put 11 = .ok (.iload_n 1, 1)))) (
   sndC (sd_iload_n (hi := rfl) (hd := (by decide +kernel : decode cX5_put 12 = .ok (.iload_n 2, 1)))) (
   sndC (sd_iast (hd := (by decide +kernel : decode cX5_put 13 = .ok (.iastore, 1)))) (
   sndN))))))))))⟩


set_option maxRecDepth 20000 in
theorem GX5_place : Good mX5_place := ⟨by decide +kernel, List.mem_of_getElem? (i := 717) (by decide +kernel), inX5, ⟨by decide +kernel, by decide +kernel⟩, by decide, show ∀ q ∈ tX5_place, Snd mX5_place q.1 q.2 from
  sndC (sd_iload_n (hi := rfl) (hd := (by decide +kernel : decode cX5_place 0 = .ok (.iload_n 0, 1)))) (
   sndC (sd_iconst (hd := (by decide +kernel : decode cX5_place 1 = .ok (.iconst 4, 1))) (hv := by decide)) (
   sndC (sd_imul (hd := (by decide +kernel : decode cX5_place 2 = .ok (.imul, 1)))) (
   sndC (sd_iload_n (hi := rfl) (hd := (by decide +kernel : decode cX5_place 3 = .ok (.iload_n 1, 1)))) (
   sndC (sd_iadd (hd := (by decide +kernel : decode cX5_place 4 = .ok (.iadd, 1)))) (
   sndC (sd_iconst (hd := (by decide +kernel : decode cX5_place 5 = .ok (.iconst 4, 1))) (hv := by decide)) (
   sndC (sd_imul (hd := (by decide +kernel : decode cX5_place 6 = .ok (.imul, 1)))) (
   sndC (sd_iload_n (hi := rfl) (hd := (by decide +kernel : decode cX5_place 7 = .ok (.iload_n 2, 1)))) (
   sndC (sd_iadd (hd := (by decide +kernel : decode cX5_place 8 = .ok (.iadd, 1)))) (
   sndN)))))))))⟩


set_option maxRecDepth 20000 in
theorem GX5_stepOf : Good mX5_stepOf := ⟨by decide +kernel, List.mem_of_getElem? (i := 701) (by decide +kernel), inX5, ⟨by decide +kernel, by decide +kernel⟩, by decide, show ∀ q ∈ tX5_stepOf, Snd mX5_stepOf q.1 q.2 from
  sndC (sd_iload_n (hi := rfl) (hd := (by decide +kernel : decode cX5_stepOf 0 = .ok (.iload_n 0, 1)))) (
   sndC (sd_bipush (hd := (by decide +kernel : decode cX5_stepOf 1 = .ok (.bipush 16, 2))) (hv := by decide)) (
   sndC (sd_idiv (hd := (by decide +kernel : decode cX5_stepOf 3 = .ok (.idiv, 1)))) (
   sndN)))⟩


set_option maxRecDepth 20000 in
theorem GX5_lastOf : Good mX5_lastOf := ⟨by decide +kernel, List.mem_of_getElem? (i := 707) (by decide +kernel), inX5, ⟨by decide +kernel, by decide +kernel⟩, by decide, show ∀ q ∈ tX5_lastOf, Snd mX5_lastOf q.1 q.2 from
  sndC (sd_iload_n (hi := rfl) (hd := (by decide +kernel : decode cX5_lastOf 0 = .ok (.iload_n 0, 1)))) (
   sndC (sd_iconst (hd := (by decide +kernel : decode cX5_lastOf 1 = .ok (.iconst 4, 1))) (hv := by decide)) (
   sndC (sd_idiv (hd := (by decide +kernel : decode cX5_lastOf 2 = .ok (.idiv, 1)))) (
   sndC (sd_iconst (hd := (by decide +kernel : decode cX5_lastOf 3 = .ok (.iconst 4, 1))) (hv := by decide)) (
   sndC (sd_irem (hd := (by decide +kernel : decode cX5_lastOf 4 = .ok (.irem, 1)))) (
   sndN)))))⟩


set_option maxRecDepth 20000 in
theorem GX5_doingOf : Good mX5_doingOf := ⟨by decide +kernel, List.mem_of_getElem? (i := 704) (by decide +kernel), inX5, ⟨by decide +kernel, by decide +kernel⟩, by decide, show ∀ q ∈ tX5_doingOf, Snd mX5_doingOf q.1 q.2 from
  sndC (sd_iload_n (hi := rfl) (hd := (by decide +kernel : decode cX5_doingOf 0 = .ok (.iload_n 0, 1)))) (
   sndC (sd_iconst (hd := (by decide +kernel : decode cX5_doingOf 1 = .ok (.iconst 4, 1))) (hv := by decide)) (
   sndC (sd_irem (hd := (by decide +kernel : decode cX5_doingOf 2 = .ok (.irem, 1)))) (
   sndN)))⟩


set_option maxRecDepth 20000 in
theorem GX6_init : Good mX6_init := ⟨by decide +kernel, List.mem_of_getElem? (i := 315) (by decide +kernel), inX6, ⟨by decide +kernel, by decide +kernel⟩, by decide, show ∀ q ∈ tX6_init, Snd mX6_init q.1 q.2 from
  sndC (sd_aload_n (hi := rfl) (hd := (by decide +kernel : decode cX6_init 0 = .ok (.aload_n 0, 1)))) (
   sndC (sd_objInit (hl := w_316) (hi0 := w_145) (hc0 := w_146) (hd := (by decide +kernel : decode cX6_init 1 = .ok (.invokespecial 3, 3)))) (
   sndC (sd_aload_n (hi := rfl) (hd := (by decide +kernel : decode cX6_init 4 = .ok (.aload_n 0, 1)))) (
   sndC (sd_bipush (hd := (by decide +kernel : decode cX6_init 5 = .ok (.bipush 40, 2))) (hv := by decide)) (
   sndC (sd_newI (hw0 := w_178) (hd := (by decide +kernel : decode cX6_init 7 = .ok (.newarray .int, 2)))) (
   sndC (sd_putAF (C := RX6) (T := TX6) (N := 3) (hc := rfl) (hin0 := iX6) (hk := by decide) (hlink := w_317) (ty0 := tyX6) (hty := tyX6_ok) (hnm := nmX6) (hfin := rfl) (hi2 := rfl) (hdecl := rfl) (hi := .inr ⟨_, rfl⟩) (hd := (by decide +kernel : decode cX6_init 9 = .ok (.putfield 9, 3)))) (
   sndC (sd_aload_n (hi := rfl) (hd := (by decide +kernel : decode cX6_init 12 = .ok (.aload_n 0, 1)))) (
   sndC (sd_iconst (hd := (by decide +kernel : decode cX6_init 13 = .ok (.iconst (-1), 1))) (hv := by decide)) (
   sndC (sd_putI (C := RX6) (T := TX6) (N := 3) (hc := rfl) (hin0 := iX6) (hk := by decide) (hlink := w_319) (ty0 := tyX6) (hty := tyX6_ok) (hnm := nmX6) (hfin := rfl) (hi := rfl) (hd := (by decide +kernel : decode cX6_init 14 = .ok (.putfield 15, 3)))) (
   sndN)))))))))⟩


set_option maxRecDepth 20000 in
theorem GX6_become : Good mX6_become := ⟨by decide +kernel, List.mem_of_getElem? (i := 922) (by decide +kernel), inX6, ⟨by decide +kernel, by decide +kernel⟩, by decide, show ∀ q ∈ tX6_become, Snd mX6_become q.1 q.2 from
  sndC (sd_aload_n (hi := rfl) (hd := (by decide +kernel : decode cX6_become 0 = .ok (.aload_n 0, 1)))) (
   sndC (sd_iload_n (hi := rfl) (hd := (by decide +kernel : decode cX6_become 1 = .ok (.iload_n 1, 1)))) (
   sndC (sd_putI (C := RX6) (T := TX6) (N := 3) (hc := rfl) (hin0 := iX6) (hk := by decide) (hlink := w_319) (ty0 := tyX6) (hty := tyX6_ok) (hnm := nmX6) (hfin := rfl) (hi := rfl) (hd := (by decide +kernel : decode cX6_become 2 = .ok (.putfield 15, 3)))) (
   sndC (sd_aload_n (hi := rfl) (hd := (by decide +kernel : decode cX6_become 5 = .ok (.aload_n 0, 1)))) (
   sndC (sd_iload_n (hi := rfl) (hd := (by decide +kernel : decode cX6_become 6 = .ok (.iload_n 2, 1)))) (
   sndC (sd_putI (C := RX6) (T := TX6) (N := 3) (hc := rfl) (hin0 := iX6) (hk := by decide) (hlink := w_321) (ty0 := tyX6) (hty := tyX6_ok) (hnm := nmX6) (hfin := rfl) (hi := rfl) (hd := (by decide +kernel : decode cX6_become 7 = .ok (.putfield 19, 3)))) (
   sndC (sd_aload_n (hi := rfl) (hd := (by decide +kernel : decode cX6_become 10 = .ok (.aload_n 0, 1)))) (
   sndC (sd_get (C := RX6) (T := TX6) (N := 3) (hc := rfl) (hin0 := iX6) (hk := by decide) (hlink := w_317) (hd := (by decide +kernel : decode cX6_become 11 = .ok (.getfield 9, 3)))) (
   sndC (sd_iconst (hd := (by decide +kernel : decode cX6_become 14 = .ok (.iconst 0, 1))) (hv := by decide)) (
   sndN)))))))))⟩
theorem kX6_become_15 : CallAt mX6_become 15 1 mJ7_fill_53178 2 := ⟨by decide +kernel, ⟨_, (by decide +kernel : decode cX6_become 15 = .ok (.invokestatic 22, 3)), w_923, w_692⟩⟩

set_option maxRecDepth 20000 in
theorem GX6_holds : Good mX6_holds := ⟨by decide +kernel, List.mem_of_getElem? (i := 980) (by decide +kernel), inX6, ⟨by decide +kernel, by decide +kernel⟩, by decide, show ∀ q ∈ tX6_holds, Snd mX6_holds q.1 q.2 from
  sndC (sd_iload_n (hi := rfl) (hd := (by decide +kernel : decode cX6_holds 0 = .ok (.iload_n 1, 1)))) (
   sndC (sd_if_lt (ht := by decide) (hd := (by decide +kernel : decode cX6_holds 1 = .ok (.ifCond .lt 15, 3)))) (
   sndC (sd_iload_n (hi := rfl) (hd := (by decide +kernel : decode cX6_holds 4 = .ok (.iload_n 1, 1)))) (
   sndC (sd_aload_n (hi := rfl) (hd := (by decide +kernel : decode cX6_holds 5 = .ok (.aload_n 0, 1)))) (
   sndC (sd_get (C := RX6) (T := TX6) (N := 3) (hc := rfl) (hin0 := iX6) (hk := by decide) (hlink := w_321) (hd := (by decide +kernel : decode cX6_holds 6 = .ok (.getfield 19, 3)))) (
   sndC (sd_cmp_ge (ht := by decide) (hd := (by decide +kernel : decode cX6_holds 9 = .ok (.if_icmp .ge 7, 3)))) (
   sndC (sd_iconst (hd := (by decide +kernel : decode cX6_holds 12 = .ok (.iconst 1, 1))) (hv := by decide)) (
   sndC (sd_goto (ht := by decide) (hd := (by decide +kernel : decode cX6_holds 13 = .ok (.goto 4, 3)))) (
   sndC (sd_iconst (hd := (by decide +kernel : decode cX6_holds 16 = .ok (.iconst 0, 1))) (hv := by decide)) (
   sndN)))))))))⟩


set_option maxRecDepth 20000 in
theorem GX6_holdsAll : Good mX6_holdsAll := ⟨by decide +kernel, List.mem_of_getElem? (i := 988) (by decide +kernel), inX6, ⟨by decide +kernel, by decide +kernel⟩, by decide, show ∀ q ∈ tX6_holdsAll, Snd mX6_holdsAll q.1 q.2 from
  sndC (sd_iload_n (hi := rfl) (hd := (by decide +kernel : decode cX6_holdsAll 0 = .ok (.iload_n 1, 1)))) (
   sndC (sd_if_lt (ht := by decide) (hd := (by decide +kernel : decode cX6_holdsAll 1 = .ok (.ifCond .lt 29, 3)))) (
   sndC (sd_iload_n (hi := rfl) (hd := (by decide +kernel : decode cX6_holdsAll 4 = .ok (.iload_n 2, 1)))) (
   sndC (sd_if_lt (ht := by decide) (hd := (by decide +kernel : decode cX6_holdsAll 5 = .ok (.ifCond .lt 25, 3)))) (
   sndC (sd_iload_n (hi := rfl) (hd := (by decide +kernel : decode cX6_holdsAll 8 = .ok (.iload_n 1, 1)))) (
   sndC (sd_aload_n (hi := rfl) (hd := (by decide +kernel : decode cX6_holdsAll 9 = .ok (.aload_n 0, 1)))) (
   sndC (sd_get (C := RX6) (T := TX6) (N := 3) (hc := rfl) (hin0 := iX6) (hk := by decide) (hlink := w_321) (hd := (by decide +kernel : decode cX6_holdsAll 10 = .ok (.getfield 19, 3)))) (
   sndC (sd_cmp_gt (ht := by decide) (hd := (by decide +kernel : decode cX6_holdsAll 13 = .ok (.if_icmp .gt 17, 3)))) (
   sndC (sd_iload_n (hi := rfl) (hd := (by decide +kernel : decode cX6_holdsAll 16 = .ok (.iload_n 2, 1)))) (
   sndC (sd_aload_n (hi := rfl) (hd := (by decide +kernel : decode cX6_holdsAll 17 = .ok (.aload_n 0, 1)))) (
   sndC (sd_get (C := RX6) (T := TX6) (N := 3) (hc := rfl) (hin0 := iX6) (hk := by decide) (hlink := w_321) (hd := (by decide +kernel : decode cX6_holdsAll 18 = .ok (.getfield 19, 3)))) (
   sndC (sd_iload_n (hi := rfl) (hd := (by decide +kernel : decode cX6_holdsAll 21 = .ok (.iload_n 1, 1)))) (
   sndC (sd_isub (hd := (by decide +kernel : decode cX6_holdsAll 22 = .ok (.isub, 1)))) (
   sndC (sd_cmp_gt (ht := by decide) (hd := (by decide +kernel : decode cX6_holdsAll 23 = .ok (.if_icmp .gt 7, 3)))) (
   sndC (sd_iconst (hd := (by decide +kernel : decode cX6_holdsAll 26 = .ok (.iconst 1, 1))) (hv := by decide)) (
   sndC (sd_goto (ht := by decide) (hd := (by decide +kernel : decode cX6_holdsAll 27 = .ok (.goto 4, 3)))) (
   sndC (sd_iconst (hd := (by decide +kernel : decode cX6_holdsAll 30 = .ok (.iconst 0, 1))) (hv := by decide)) (
   sndN)))))))))))))))))⟩


set_option maxRecDepth 20000 in
theorem GX6_item : Good mX6_item := ⟨by decide +kernel, List.mem_of_getElem? (i := 888) (by decide +kernel), inX6, ⟨by decide +kernel, by decide +kernel⟩, by decide, show ∀ q ∈ tX6_item, Snd mX6_item q.1 q.2 from
  sndC (sd_aload_n (hi := rfl) (hd := (by decide +kernel : decode cX6_item 0 = .ok (.aload_n 0, 1)))) (
   sndC (sd_get (C := RX6) (T := TX6) (N := 3) (hc := rfl) (hin0 := iX6) (hk := by decide) (hlink := w_317) (hd := (by decide +kernel : decode cX6_item 1 = .ok (.getfield 9, 3)))) (
   sndC (sd_iload_n (hi := rfl) (hd := (by decide +kernel : decode cX6_item 4 = .ok (.iload_n 1, 1)))) (
   sndN)))⟩
theorem kX6_item_5 : CallAt mX6_item 5 1 mX5_at 2 := ⟨by decide +kernel, ⟨_, (by decide +kernel : decode cX6_item 5 = .ok (.invokestatic 28, 3)), w_889, w_391⟩⟩

set_option maxRecDepth 20000 in
theorem GX6_put : Good mX6_put := ⟨by decide +kernel, List.mem_of_getElem? (i := 927) (by decide +kernel), inX6, ⟨by decide +kernel, by decide +kernel⟩, by decide, show ∀ q ∈ tX6_put, Snd mX6_put q.1 q.2 from
  sndC (sd_aload_n (hi := rfl) (hd := (by decide +kernel : decode cX6_put 0 = .ok (.aload_n 0, 1)))) (
   sndC (sd_get (C := RX6) (T := TX6) (N := 3) (hc := rfl) (hin0 := iX6) (hk := by decide) (hlink := w_317) (hd := (by decide +kernel : decode cX6_put 1 = .ok (.getfield 9, 3)))) (
   sndC (sd_iload_n (hi := rfl) (hd := (by decide +kernel : decode cX6_put 4 = .ok (.iload_n 1, 1)))) (
   sndC (sd_aload_n (hi := rfl) (hd := (by decide +kernel : decode cX6_put 5 = .ok (.aload_n 0, 1)))) (
   sndC (sd_get (C := RX6) (T := TX6) (N := 3) (hc := rfl) (hin0 := iX6) (hk := by decide) (hlink := w_319) (hd := (by decide +kernel : decode cX6_put 6 = .ok (.getfield 15, 3)))) (
   sndC (sd_if_ne (ht := by decide) (hd := (by decide +kernel : decode cX6_put 9 = .ok (.ifCond .ne 8, 3)))) (
   sndC (sd_iload_n (hi := rfl) (hd := (by decide +kernel : decode cX6_put 12 = .ok (.iload_n 2, 1)))) (
   sndC (sd_i2b (hd := (by decide +kernel : decode cX6_put 13 = .ok (.i2b, 1)))) (
   sndC (sd_goto (ht := by decide) (hd := (by decide +kernel : decode cX6_put 14 = .ok (.goto 17, 3)))) (
   sndC (sd_aload_n (hi := rfl) (hd := (by decide +kernel : decode cX6_put 17 = .ok (.aload_n 0, 1)))) (
   sndC (sd_get (C := RX6) (T := TX6) (N := 3) (hc := rfl) (hin0 := iX6) (hk := by decide) (hlink := w_319) (hd := (by decide +kernel : decode cX6_put 18 = .ok (.getfield 15, 3)))) (
   sndC (sd_iconst (hd := (by decide +kernel : decode cX6_put 21 = .ok (.iconst 1, 1))) (hv := by decide)) (
   sndC (sd_cmp_ne (ht := by decide) (hd := (by decide +kernel : decode cX6_put 22 = .ok (.if_icmp .ne 8, 3)))) (
   sndC (sd_iload_n (hi := rfl) (hd := (by decide +kernel : decode cX6_put 25 = .ok (.iload_n 2, 1)))) (
   sndC (sd_i2s (hd := (by decide +kernel : decode cX6_put 26 = .ok (.i2s, 1)))) (
   sndC (sd_goto (ht := by decide) (hd := (by decide +kernel : decode cX6_put 27 = .ok (.goto 4, 3)))) (
   sndC (sd_iload_n (hi := rfl) (hd := (by decide +kernel : decode cX6_put 30 = .ok (.iload_n 2, 1)))) (
   sndN)))))))))))))))))⟩
theorem kX6_put_31 : CallAt mX6_put 31 1 mX5_put 3 := ⟨by decide +kernel, ⟨_, (by decide +kernel : decode cX6_put 31 = .ok (.invokestatic 34, 3)), w_928, w_432⟩⟩

set_option maxRecDepth 20000 in
theorem GX7_isValue : Good mX7_isValue := ⟨by decide +kernel, List.mem_of_getElem? (i := 468) (by decide +kernel), inX7, ⟨by decide +kernel, by decide +kernel⟩, by decide, show ∀ q ∈ tX7_isValue, Snd mX7_isValue q.1 q.2 from
  sndC (sd_iload_n (hi := rfl) (hd := (by decide +kernel : decode cX7_isValue 0 = .ok (.iload_n 0, 1)))) (
   sndC (sd_bipush (hd := (by decide +kernel : decode cX7_isValue 1 = .ok (.bipush (-6), 2))) (hv := by decide)) (
   sndC (sd_cmp_lt (ht := by decide) (hd := (by decide +kernel : decode cX7_isValue 3 = .ok (.if_icmp .lt 7, 3)))) (
   sndC (sd_iconst (hd := (by decide +kernel : decode cX7_isValue 6 = .ok (.iconst 1, 1))) (hv := by decide)) (
   sndC (sd_goto (ht := by decide) (hd := (by decide +kernel : decode cX7_isValue 7 = .ok (.goto 4, 3)))) (
   sndC (sd_iconst (hd := (by decide +kernel : decode cX7_isValue 10 = .ok (.iconst 0, 1))) (hv := by decide)) (
   sndN))))))⟩


set_option maxRecDepth 20000 in
theorem GX7_ofByte : Good mX7_ofByte := ⟨by decide +kernel, List.mem_of_getElem? (i := 430) (by decide +kernel), inX7, ⟨by decide +kernel, by decide +kernel⟩, by decide, show ∀ q ∈ tX7_ofByte, Snd mX7_ofByte q.1 q.2 from
  sndC (sd_iload_n (hi := rfl) (hd := (by decide +kernel : decode cX7_ofByte 0 = .ok (.iload_n 0, 1)))) (
   sndC (sd_tsw (hd := (by decide +kernel : decode cX7_ofByte 1 = .ok (.tableswitch 127 40 61 #[103, 106, 118, 112, 127, 115, 127, 127, 127, 127, 127, 127, 127, 127, 127, 127, 127, 127, 127, 109, 121, 124], 103))) (hok := by decide +kernel)) (
   sndC (sd_bipush (hd := (by decide +kernel : decode cX7_ofByte 104 = .ok (.bipush (-13), 2))) (hv := by decide)) (
   sndC (sd_bipush (hd := (by decide +kernel : decode cX7_ofByte 107 = .ok (.bipush (-14), 2))) (hv := by decide)) (
   sndC (sd_bipush (hd := (by decide +kernel : decode cX7_ofByte 110 = .ok (.bipush (-15), 2))) (hv := by decide)) (
   sndC (sd_bipush (hd := (by decide +kernel : decode cX7_ofByte 113 = .ok (.bipush (-16), 2))) (hv := by decide)) (
   sndC (sd_bipush (hd := (by decide +kernel : decode cX7_ofByte 116 = .ok (.bipush (-17), 2))) (hv := by decide)) (
   sndC (sd_bipush (hd := (by decide +kernel : decode cX7_ofByte 119 = .ok (.bipush (-18), 2))) (hv := by decide)) (
   sndC (sd_bipush (hd := (by decide +kernel : decode cX7_ofByte 122 = .ok (.bipush (-19), 2))) (hv := by decide)) (
   sndC (sd_bipush (hd := (by decide +kernel : decode cX7_ofByte 125 = .ok (.bipush (-20), 2))) (hv := by decide)) (
   sndC (sd_bipush (hd := (by decide +kernel : decode cX7_ofByte 128 = .ok (.bipush (-23), 2))) (hv := by decide)) (
   sndN)))))))))))⟩


set_option maxRecDepth 20000 in
theorem GX8_init : Good mX8_init := ⟨by decide +kernel, List.mem_of_getElem? (i := 501) (by decide +kernel), inX8, ⟨by decide +kernel, by decide +kernel⟩, by decide, show ∀ q ∈ tX8_init, Snd mX8_init q.1 q.2 from
  sndC (sd_aload_n (hi := rfl) (hd := (by decide +kernel : decode cX8_init 0 = .ok (.aload_n 0, 1)))) (
   sndC (sd_objInit (hl := w_502) (hi0 := w_145) (hc0 := w_146) (hd := (by decide +kernel : decode cX8_init 1 = .ok (.invokespecial 1, 3)))) (
   sndC (sd_aload_n (hi := rfl) (hd := (by decide +kernel : decode cX8_init 4 = .ok (.aload_n 0, 1)))) (
   sndC (sd_aload_n (hi := rfl) (hd := (by decide +kernel : decode cX8_init 5 = .ok (.aload_n 1, 1)))) (
   sndC (sd_putAF (C := RX8) (T := TX8) (N := 2) (hc := rfl) (hin0 := iX8) (hk := by decide) (hlink := w_503) (ty0 := tyX8) (hty := tyX8_ok) (hnm := nmX8) (hfin := rfl) (hi2 := rfl) (hdecl := rfl) (hi := .inr ⟨_, rfl⟩) (hd := (by decide +kernel : decode cX8_init 6 = .ok (.putfield 7, 3)))) (
   sndC (sd_aload_n (hi := rfl) (hd := (by decide +kernel : decode cX8_init 9 = .ok (.aload_n 0, 1)))) (
   sndC (sd_aload_n (hi := rfl) (hd := (by decide +kernel : decode cX8_init 10 = .ok (.aload_n 2, 1)))) (
   sndC (sd_putAF (C := RX8) (T := TX8) (N := 2) (hc := rfl) (hin0 := iX8) (hk := by decide) (hlink := w_504) (ty0 := tyX8) (hty := tyX8_ok) (hnm := nmX8) (hfin := rfl) (hi2 := rfl) (hdecl := rfl) (hi := .inr ⟨_, rfl⟩) (hd := (by decide +kernel : decode cX8_init 11 = .ok (.putfield 13, 3)))) (
   sndN))))))))⟩


set_option maxRecDepth 20000 in
theorem GX8_value : Good mX8_value := ⟨by decide +kernel, List.mem_of_getElem? (i := 629) (by decide +kernel), inX8, ⟨by decide +kernel, by decide +kernel⟩, by decide, show ∀ q ∈ tX8_value, Snd mX8_value q.1 q.2 from
  sndC (sd_iload_n (hi := rfl) (hd := (by decide +kernel : decode cX8_value 0 = .ok (.iload_n 1, 1)))) (
   sndC (sd_if_le (ht := by decide) (hd := (by decide +kernel : decode cX8_value 1 = .ok (.ifCond .le 16, 3)))) (
   sndC (sd_aload_n (hi := rfl) (hd := (by decide +kernel : decode cX8_value 4 = .ok (.aload_n 0, 1)))) (
   sndC (sd_get (C := RX8) (T := TX8) (N := 2) (hc := rfl) (hin0 := iX8) (hk := by decide) (hlink := w_504) (hd := (by decide +kernel : decode cX8_value 5 = .ok (.getfield 13, 3)))) (
   sndC (sd_iload_n (hi := rfl) (hd := (by decide +kernel : decode cX8_value 8 = .ok (.iload_n 1, 1)))) (
   sndC (sd_iconst (hd := (by decide +kernel : decode cX8_value 9 = .ok (.iconst 1, 1))) (hv := by decide)) (
   sndC (sd_isub (hd := (by decide +kernel : decode cX8_value 10 = .ok (.isub, 1)))) (
   sndC (sd_goto (ht := by decide) (hd := (by decide +kernel : decode cX8_value 14 = .ok (.goto 4, 3)))) (
   sndC (sd_iconst (hd := (by decide +kernel : decode cX8_value 17 = .ok (.iconst 0, 1))) (hv := by decide)) (
   sndC (sd_istore_n (hi := rfl) (hd := (by decide +kernel : decode cX8_value 18 = .ok (.istore_n 3, 1)))) (
   sndC (sd_aload_n (hi := rfl) (hd := (by decide +kernel : decode cX8_value 19 = .ok (.aload_n 0, 1)))) (
   sndC (sd_get (C := RX8) (T := TX8) (N := 2) (hc := rfl) (hin0 := iX8) (hk := by decide) (hlink := w_504) (hd := (by decide +kernel : decode cX8_value 20 = .ok (.getfield 13, 3)))) (
   sndC (sd_iload_n (hi := rfl) (hd := (by decide +kernel : decode cX8_value 23 = .ok (.iload_n 1, 1)))) (
   sndC (sd_istore (hd := (by decide +kernel : decode cX8_value 27 = .ok (.istore 4, 2)))) (
   sndC (sd_iconst (hd := (by decide +kernel : decode cX8_value 29 = .ok (.iconst 0, 1))) (hv := by decide)) (
   sndC (sd_istore (hd := (by decide +kernel : decode cX8_value 30 = .ok (.istore 5, 2)))) (
   sndC (sd_iload_n (hi := rfl) (hd := (by decide +kernel : decode cX8_value 32 = .ok (.iload_n 3, 1)))) (
   sndC (sd_istore (hd := (by decide +kernel : decode cX8_value 33 = .ok (.istore 6, 2)))) (
   sndC (sd_iload (hd := (by decide +kernel : decode cX8_value 35 = .ok (.iload 6, 2)))) (
   sndC (sd_iload (hd := (by decide +kernel : decode cX8_value 37 = .ok (.iload 4, 2)))) (
   sndC (sd_cmp_ge (ht := by decide) (hd := (by decide +kernel : decode cX8_value 39 = .ok (.if_icmp .ge 26, 3)))) (
   sndC (sd_aload_n (hi := rfl) (hd := (by decide +kernel : decode cX8_value 42 = .ok (.aload_n 0, 1)))) (
   sndC (sd_get (C := RX8) (T := TX8) (N := 2) (hc := rfl) (hin0 := iX8) (hk := by decide) (hlink := w_503) (hd := (by decide +kernel : decode cX8_value 43 = .ok (.getfield 7, 3)))) (
   sndC (sd_iload (hd := (by decide +kernel : decode cX8_value 46 = .ok (.iload 6, 2)))) (
   sndC (sd_iload (hd := (by decide +kernel : decode cX8_value 51 = .ok (.iload 5, 2)))) (
   sndC (sd_aload_n (hi := rfl) (hd := (by decide +kernel : decode cX8_value 53 = .ok (.aload_n 2, 1)))) (
   sndC (sd_istore (hd := (by decide +kernel : decode cX8_value 57 = .ok (.istore 5, 2)))) (
   sndC (sd_iinc (hv := by decide) (hd := (by decide +kernel : decode cX8_value 59 = .ok (.iinc 6 1, 3)))) (
   sndC (sd_goto (ht := by decide) (hd := (by decide +kernel : decode cX8_value 62 = .ok (.goto (-27), 3)))) (
   sndC (sd_iload_n (hi := rfl) (hd := (by decide +kernel : decode cX8_value 65 = .ok (.iload_n 1, 1)))) (
   sndC (sd_iconst (hd := (by decide +kernel : decode cX8_value 66 = .ok (.iconst 2, 1))) (hv := by decide)) (
   sndC (sd_cmp_ne (ht := by decide) (hd := (by decide +kernel : decode cX8_value 67 = .ok (.if_icmp .ne 8, 3)))) (
   sndC (sd_bipush (hd := (by decide +kernel : decode cX8_value 70 = .ok (.bipush (-99), 2))) (hv := by decide)) (
   sndC (sd_goto (ht := by decide) (hd := (by decide +kernel : decode cX8_value 72 = .ok (.goto 4, 3)))) (
   sndC (sd_iconst (hd := (by decide +kernel : decode cX8_value 75 = .ok (.iconst 0, 1))) (hv := by decide)) (
   sndC (sd_istore (hd := (by decide +kernel : decode cX8_value 76 = .ok (.istore 6, 2)))) (
   sndC (sd_iload (hd := (by decide +kernel : decode cX8_value 78 = .ok (.iload 6, 2)))) (
   sndC (sd_bipush (hd := (by decide +kernel : decode cX8_value 80 = .ok (.bipush 99, 2))) (hv := by decide)) (
   sndC (sd_aload_n (hi := rfl) (hd := (by decide +kernel : decode cX8_value 82 = .ok (.aload_n 2, 1)))) (
   sndC (sd_get (C := RX3) (T := TX3) (N := 7) (hc := rfl) (hin0 := iX3) (hk := by decide) (hlink := w_186) (hd := (by decide +kernel : decode cX8_value 83 = .ok (.getfield 26, 3)))) (
   sndC (sd_iconst (hd := (by decide +kernel : decode cX8_value 86 = .ok (.iconst 0, 1))) (hv := by decide)) (
   sndC (sd_min (hl := w_643) (hs0 := w_492) (hi0 := w_133) (hc0 := w_493) (hd := (by decide +kernel : decode cX8_value 90 = .ok (.invokestatic 31, 3)))) (
   sndC (sd_max (hl := w_644) (hs0 := w_479) (hi0 := w_133) (hc0 := w_480) (hd := (by decide +kernel : decode cX8_value 93 = .ok (.invokestatic 37, 3)))) (
   sndN)))))))))))))))))))))))))))))))))))))))))))⟩
theorem kX8_value_11 : CallAt mX8_value 11 1 mX5_at 2 := ⟨by decide +kernel, ⟨_, (by decide +kernel : decode cX8_value 11 = .ok (.invokestatic 16, 3)), w_630, w_391⟩⟩
theorem kX8_value_24 : CallAt mX8_value 24 1 mX5_at 2 := ⟨by decide +kernel, ⟨_, (by decide +kernel : decode cX8_value 24 = .ok (.invokestatic 16, 3)), w_630, w_391⟩⟩
theorem kX8_value_48 : CallAt mX8_value 48 1 mX5_at 2 := ⟨by decide +kernel, ⟨_, (by decide +kernel : decode cX8_value 48 = .ok (.invokestatic 16, 3)), w_630, w_391⟩⟩
theorem kX8_value_54 : CallAt mX8_value 54 1 mX8_reckon 3 := ⟨by decide +kernel, ⟨_, (by decide +kernel : decode cX8_value 54 = .ok (.invokestatic 22, 3)), w_631, w_632⟩⟩
theorem kX8_value_87 : CallAt mX8_value 87 1 mX5_at 2 := ⟨by decide +kernel, ⟨_, (by decide +kernel : decode cX8_value 87 = .ok (.invokestatic 16, 3)), w_630, w_391⟩⟩

set_option maxRecDepth 20000 in
theorem GX8_reckon : Good mX8_reckon := ⟨by decide +kernel, List.mem_of_getElem? (i := 633) (by decide +kernel), inX8, ⟨by decide +kernel, by decide +kernel⟩, by decide, show ∀ q ∈ tX8_reckon, Snd mX8_reckon q.1 q.2 from
  sndC (sd_aload_n (hi := rfl) (hd := (by decide +kernel : decode cX8_reckon 0 = .ok (.aload_n 2, 1)))) (
   sndC (sd_get (C := RX3) (T := TX3) (N := 7) (hc := rfl) (hin0 := iX3) (hk := by decide) (hlink := w_186) (hd := (by decide +kernel : decode cX8_reckon 1 = .ok (.getfield 26, 3)))) (
   sndC (sd_astore_n (hi := rfl) (hd := (by decide +kernel : decode cX8_reckon 4 = .ok (.astore_n 3, 1)))) (
   sndC (sd_iload_n (hi := rfl) (hd := (by decide +kernel : decode cX8_reckon 5 = .ok (.iload_n 0, 1)))) (
   sndC (sd_if_eq (ht := by decide) (hd := (by decide +kernel : decode cX8_reckon 9 = .ok (.ifCond .eq 25, 3)))) (
   sndC (sd_aload_n (hi := rfl) (hd := (by decide +kernel : decode cX8_reckon 12 = .ok (.aload_n 3, 1)))) (
   sndC (sd_iload_n (hi := rfl) (hd := (by decide +kernel : decode cX8_reckon 13 = .ok (.iload_n 1, 1)))) (
   sndC (sd_iload_n (hi := rfl) (hd := (by decide +kernel : decode cX8_reckon 14 = .ok (.iload_n 0, 1)))) (
   sndC (sd_if_lt (ht := by decide) (hd := (by decide +kernel : decode cX8_reckon 15 = .ok (.ifCond .lt 7, 3)))) (
   sndC (sd_iload_n (hi := rfl) (hd := (by decide +kernel : decode cX8_reckon 18 = .ok (.iload_n 0, 1)))) (
   sndC (sd_goto (ht := by decide) (hd := (by decide +kernel : decode cX8_reckon 19 = .ok (.goto 8, 3)))) (
   sndC (sd_aload_n (hi := rfl) (hd := (by decide +kernel : decode cX8_reckon 22 = .ok (.aload_n 2, 1)))) (
   sndC (sd_iload_n (hi := rfl) (hd := (by decide +kernel : decode cX8_reckon 23 = .ok (.iload_n 0, 1)))) (
   sndC (sd_iload_n (hi := rfl) (hd := (by decide +kernel : decode cX8_reckon 30 = .ok (.iload_n 1, 1)))) (
   sndC (sd_iconst (hd := (by decide +kernel : decode cX8_reckon 31 = .ok (.iconst 1, 1))) (hv := by decide)) (
   sndC (sd_iadd (hd := (by decide +kernel : decode cX8_reckon 32 = .ok (.iadd, 1)))) (
   sndC (sd_aload_n (hi := rfl) (hd := (by decide +kernel : decode cX8_reckon 34 = .ok (.aload_n 3, 1)))) (
   sndC (sd_iload_n (hi := rfl) (hd := (by decide +kernel : decode cX8_reckon 35 = .ok (.iload_n 1, 1)))) (
   sndC (sd_iconst (hd := (by decide +kernel : decode cX8_reckon 36 = .ok (.iconst 1, 1))) (hv := by decide)) (
   sndC (sd_isub (hd := (by decide +kernel : decode cX8_reckon 37 = .ok (.isub, 1)))) (
   sndC (sd_istore (hd := (by decide +kernel : decode cX8_reckon 41 = .ok (.istore 4, 2)))) (
   sndC (sd_iload_n (hi := rfl) (hd := (by decide +kernel : decode cX8_reckon 43 = .ok (.iload_n 0, 1)))) (
   sndC (sd_bipush (hd := (by decide +kernel : decode cX8_reckon 44 = .ok (.bipush (-12), 2))) (hv := by decide)) (
   sndC (sd_cmp_eq (ht := by decide) (hd := (by decide +kernel : decode cX8_reckon 46 = .ok (.if_icmp .eq 9, 3)))) (
   sndC (sd_iload_n (hi := rfl) (hd := (by decide +kernel : decode cX8_reckon 49 = .ok (.iload_n 0, 1)))) (
   sndC (sd_bipush (hd := (by decide +kernel : decode cX8_reckon 50 = .ok (.bipush (-21), 2))) (hv := by decide)) (
   sndC (sd_cmp_ne (ht := by decide) (hd := (by decide +kernel : decode cX8_reckon 52 = .ok (.if_icmp .ne 34, 3)))) (
   sndC (sd_aload_n (hi := rfl) (hd := (by decide +kernel : decode cX8_reckon 55 = .ok (.aload_n 3, 1)))) (
   sndC (sd_iload_n (hi := rfl) (hd := (by decide +kernel : decode cX8_reckon 56 = .ok (.iload_n 1, 1)))) (
   sndC (sd_iconst (hd := (by decide +kernel : decode cX8_reckon 57 = .ok (.iconst 1, 1))) (hv := by decide)) (
   sndC (sd_isub (hd := (by decide +kernel : decode cX8_reckon 58 = .ok (.isub, 1)))) (
   sndC (sd_iload_n (hi := rfl) (hd := (by decide +kernel : decode cX8_reckon 59 = .ok (.iload_n 0, 1)))) (
   sndC (sd_bipush (hd := (by decide +kernel : decode cX8_reckon 60 = .ok (.bipush (-21), 2))) (hv := by decide)) (
   sndC (sd_cmp_ne (ht := by decide) (hd := (by decide +kernel : decode cX8_reckon 62 = .ok (.if_icmp .ne 9, 3)))) (
   sndC (sd_iload (hd := (by decide +kernel : decode cX8_reckon 65 = .ok (.iload 4, 2)))) (
   sndC (sd_ineg (hd := (by decide +kernel : decode cX8_reckon 67 = .ok (.ineg, 1)))) (
   sndC (sd_goto (ht := by decide) (hd := (by decide +kernel : decode cX8_reckon 68 = .ok (.goto 13, 3)))) (
   sndC (sd_iload (hd := (by decide +kernel : decode cX8_reckon 71 = .ok (.iload 4, 2)))) (
   sndC (sd_if_ne (ht := by decide) (hd := (by decide +kernel : decode cX8_reckon 73 = .ok (.ifCond .ne 7, 3)))) (
   sndC (sd_iconst (hd := (by decide +kernel : decode cX8_reckon 76 = .ok (.iconst 1, 1))) (hv := by decide)) (
   sndC (sd_goto (ht := by decide) (hd := (by decide +kernel : decode cX8_reckon 77 = .ok (.goto 4, 3)))) (
   sndC (sd_iconst (hd := (by decide +kernel : decode cX8_reckon 80 = .ok (.iconst 0, 1))) (hv := by decide)) (
   sndC (sd_iload_n (hi := rfl) (hd := (by decide +kernel : decode cX8_reckon 84 = .ok (.iload_n 1, 1)))) (
   sndC (sd_aload_n (hi := rfl) (hd := (by decide +kernel : decode cX8_reckon 86 = .ok (.aload_n 3, 1)))) (
   sndC (sd_iload_n (hi := rfl) (hd := (by decide +kernel : decode cX8_reckon 87 = .ok (.iload_n 1, 1)))) (
   sndC (sd_iconst (hd := (by decide +kernel : decode cX8_reckon 88 = .ok (.iconst 2, 1))) (hv := by decide)) (
   sndC (sd_isub (hd := (by decide +kernel : decode cX8_reckon 89 = .ok (.isub, 1)))) (
   sndC (sd_iload_n (hi := rfl) (hd := (by decide +kernel : decode cX8_reckon 90 = .ok (.iload_n 0, 1)))) (
   sndC (sd_aload_n (hi := rfl) (hd := (by decide +kernel : decode cX8_reckon 91 = .ok (.aload_n 3, 1)))) (
   sndC (sd_iload_n (hi := rfl) (hd := (by decide +kernel : decode cX8_reckon 92 = .ok (.iload_n 1, 1)))) (
   sndC (sd_iconst (hd := (by decide +kernel : decode cX8_reckon 93 = .ok (.iconst 2, 1))) (hv := by decide)) (
   sndC (sd_isub (hd := (by decide +kernel : decode cX8_reckon 94 = .ok (.isub, 1)))) (
   sndC (sd_iload (hd := (by decide +kernel : decode cX8_reckon 98 = .ok (.iload 4, 2)))) (
   sndC (sd_iload_n (hi := rfl) (hd := (by decide +kernel : decode cX8_reckon 106 = .ok (.iload_n 1, 1)))) (
   sndC (sd_iconst (hd := (by decide +kernel : decode cX8_reckon 107 = .ok (.iconst 1, 1))) (hv := by decide)) (
   sndC (sd_isub (hd := (by decide +kernel : decode cX8_reckon 108 = .ok (.isub, 1)))) (
   sndN))))))))))))))))))))))))))))))))))))))))))))))))))))))))⟩
theorem kX8_reckon_6 : CallAt mX8_reckon 6 1 mX7_isValue 1 := ⟨by decide +kernel, ⟨_, (by decide +kernel : decode cX8_reckon 6 = .ok (.invokestatic 40, 3)), w_634, w_467⟩⟩
theorem kX8_reckon_24 : CallAt mX8_reckon 24 0 mX3_named 1 := ⟨by decide +kernel, ⟨_, (by decide +kernel : decode cX8_reckon 24 = .ok (.invokevirtual 46, 3)), w_635, w_636, w_637⟩⟩
theorem kX8_reckon_27 : CallAt mX8_reckon 27 1 mX5_put 3 := ⟨by decide +kernel, ⟨_, (by decide +kernel : decode cX8_reckon 27 = .ok (.invokestatic 50, 3)), w_639, w_432⟩⟩
theorem kX8_reckon_38 : CallAt mX8_reckon 38 1 mX5_at 2 := ⟨by decide +kernel, ⟨_, (by decide +kernel : decode cX8_reckon 38 = .ok (.invokestatic 16, 3)), w_630, w_391⟩⟩
theorem kX8_reckon_81 : CallAt mX8_reckon 81 1 mX5_put 3 := ⟨by decide +kernel, ⟨_, (by decide +kernel : decode cX8_reckon 81 = .ok (.invokestatic 50, 3)), w_639, w_432⟩⟩
theorem kX8_reckon_95 : CallAt mX8_reckon 95 1 mX5_at 2 := ⟨by decide +kernel, ⟨_, (by decide +kernel : decode cX8_reckon 95 = .ok (.invokestatic 16, 3)), w_630, w_391⟩⟩
theorem kX8_reckon_100 : CallAt mX8_reckon 100 1 mX8_joined 3 := ⟨by decide +kernel, ⟨_, (by decide +kernel : decode cX8_reckon 100 = .ok (.invokestatic 54, 3)), w_640, w_641⟩⟩
theorem kX8_reckon_103 : CallAt mX8_reckon 103 1 mX5_put 3 := ⟨by decide +kernel, ⟨_, (by decide +kernel : decode cX8_reckon 103 = .ok (.invokestatic 50, 3)), w_639, w_432⟩⟩

set_option maxRecDepth 20000 in
theorem GX8_joined : Good mX8_joined := ⟨by decide +kernel, List.mem_of_getElem? (i := 642) (by decide +kernel), inX8, ⟨by decide +kernel, by decide +kernel⟩, by decide, show ∀ q ∈ tX8_joined, Snd mX8_joined q.1 q.2 from
  sndC (sd_iload_n (hi := rfl) (hd := (by decide +kernel : decode cX8_joined 0 = .ok (.iload_n 0, 1)))) (
   sndC (sd_tsw (hd := (by decide +kernel : decode cX8_joined 1 = .ok (.tableswitch 117 (-20) (-10) #[98, 87, 117, 113, 109, 117, 117, 117, 117, 73, 59], 59))) (hok := by decide +kernel)) (
   sndC (sd_iload_n (hi := rfl) (hd := (by decide +kernel : decode cX8_joined 60 = .ok (.iload_n 1, 1)))) (
   sndC (sd_if_ne (ht := by decide) (hd := (by decide +kernel : decode cX8_joined 61 = .ok (.ifCond .ne 7, 3)))) (
   sndC (sd_iload_n (hi := rfl) (hd := (by decide +kernel : decode cX8_joined 64 = .ok (.iload_n 2, 1)))) (
   sndC (sd_if_eq (ht := by decide) (hd := (by decide +kernel : decode cX8_joined 65 = .ok (.ifCond .eq 7, 3)))) (
   sndC (sd_iconst (hd := (by decide +kernel : decode cX8_joined 68 = .ok (.iconst 1, 1))) (hv := by decide)) (
   sndC (sd_goto (ht := by decide) (hd := (by decide +kernel : decode cX8_joined 69 = .ok (.goto 4, 3)))) (
   sndC (sd_iconst (hd := (by decide +kernel : decode cX8_joined 72 = .ok (.iconst 0, 1))) (hv := by decide)) (
   sndC (sd_iload_n (hi := rfl) (hd := (by decide +kernel : decode cX8_joined 74 = .ok (.iload_n 1, 1)))) (
   sndC (sd_if_eq (ht := by decide) (hd := (by decide +kernel : decode cX8_joined 75 = .ok (.ifCond .eq 11, 3)))) (
   sndC (sd_iload_n (hi := rfl) (hd := (by decide +kernel : decode cX8_joined 78 = .ok (.iload_n 2, 1)))) (
   sndC (sd_if_eq (ht := by decide) (hd := (by decide +kernel : decode cX8_joined 79 = .ok (.ifCond .eq 7, 3)))) (
   sndC (sd_iconst (hd := (by decide +kernel : decode cX8_joined 82 = .ok (.iconst 1, 1))) (hv := by decide)) (
   sndC (sd_goto (ht := by decide) (hd := (by decide +kernel : decode cX8_joined 83 = .ok (.goto 4, 3)))) (
   sndC (sd_iconst (hd := (by decide +kernel : decode cX8_joined 86 = .ok (.iconst 0, 1))) (hv := by decide)) (
   sndC (sd_iload_n (hi := rfl) (hd := (by decide +kernel : decode cX8_joined 88 = .ok (.iload_n 1, 1)))) (
   sndC (sd_iload_n (hi := rfl) (hd := (by decide +kernel : decode cX8_joined 89 = .ok (.iload_n 2, 1)))) (
   sndC (sd_cmp_ge (ht := by decide) (hd := (by decide +kernel : decode cX8_joined 90 = .ok (.if_icmp .ge 7, 3)))) (
   sndC (sd_iconst (hd := (by decide +kernel : decode cX8_joined 93 = .ok (.iconst 1, 1))) (hv := by decide)) (
   sndC (sd_goto (ht := by decide) (hd := (by decide +kernel : decode cX8_joined 94 = .ok (.goto 4, 3)))) (
   sndC (sd_iconst (hd := (by decide +kernel : decode cX8_joined 97 = .ok (.iconst 0, 1))) (hv := by decide)) (
   sndC (sd_iload_n (hi := rfl) (hd := (by decide +kernel : decode cX8_joined 99 = .ok (.iload_n 1, 1)))) (
   sndC (sd_iload_n (hi := rfl) (hd := (by decide +kernel : decode cX8_joined 100 = .ok (.iload_n 2, 1)))) (
   sndC (sd_cmp_ne (ht := by decide) (hd := (by decide +kernel : decode cX8_joined 101 = .ok (.if_icmp .ne 7, 3)))) (
   sndC (sd_iconst (hd := (by decide +kernel : decode cX8_joined 104 = .ok (.iconst 1, 1))) (hv := by decide)) (
   sndC (sd_goto (ht := by decide) (hd := (by decide +kernel : decode cX8_joined 105 = .ok (.goto 4, 3)))) (
   sndC (sd_iconst (hd := (by decide +kernel : decode cX8_joined 108 = .ok (.iconst 0, 1))) (hv := by decide)) (
   sndC (sd_iload_n (hi := rfl) (hd := (by decide +kernel : decode cX8_joined 110 = .ok (.iload_n 1, 1)))) (
   sndC (sd_iload_n (hi := rfl) (hd := (by decide +kernel : decode cX8_joined 111 = .ok (.iload_n 2, 1)))) (
   sndC (sd_iadd (hd := (by decide +kernel : decode cX8_joined 112 = .ok (.iadd, 1)))) (
   sndC (sd_iload_n (hi := rfl) (hd := (by decide +kernel : decode cX8_joined 114 = .ok (.iload_n 1, 1)))) (
   sndC (sd_iload_n (hi := rfl) (hd := (by decide +kernel : decode cX8_joined 115 = .ok (.iload_n 2, 1)))) (
   sndC (sd_isub (hd := (by decide +kernel : decode cX8_joined 116 = .ok (.isub, 1)))) (
   sndC (sd_iload_n (hi := rfl) (hd := (by decide +kernel : decode cX8_joined 118 = .ok (.iload_n 1, 1)))) (
   sndC (sd_iload_n (hi := rfl) (hd := (by decide +kernel : decode cX8_joined 119 = .ok (.iload_n 2, 1)))) (
   sndC (sd_imul (hd := (by decide +kernel : decode cX8_joined 120 = .ok (.imul, 1)))) (
   sndN)))))))))))))))))))))))))))))))))))))⟩


set_option maxRecDepth 20000 in
theorem GX9_init : Good mX9_init := ⟨by decide +kernel, List.mem_of_getElem? (i := 271) (by decide +kernel), inX9, ⟨by decide +kernel, by decide +kernel⟩, by decide, show ∀ q ∈ tX9_init, Snd mX9_init q.1 q.2 from
  sndC (sd_aload_n (hi := rfl) (hd := (by decide +kernel : decode cX9_init 0 = .ok (.aload_n 0, 1)))) (
   sndC (sd_objInit (hl := w_272) (hi0 := w_145) (hc0 := w_146) (hd := (by decide +kernel : decode cX9_init 1 = .ok (.invokespecial 3, 3)))) (
   sndC (sd_aload_n (hi := rfl) (hd := (by decide +kernel : decode cX9_init 4 = .ok (.aload_n 0, 1)))) (
   sndC (sd_bipush (hd := (by decide +kernel : decode cX9_init 5 = .ok (.bipush 96, 2))) (hv := by decide)) (
   sndC (sd_newI (hw0 := w_178) (hd := (by decide +kernel : decode cX9_init 7 = .ok (.newarray .int, 2)))) (
   sndC (sd_putAF (C := RX9) (T := TX9) (N := 10) (hc := rfl) (hin0 := iX9) (hk := by decide) (hlink := w_273) (ty0 := tyX9) (hty := tyX9_ok) (hnm := nmX9) (hfin := rfl) (hi2 := rfl) (hdecl := rfl) (hi := .inr ⟨_, rfl⟩) (hd := (by decide +kernel : decode cX9_init 9 = .ok (.putfield 11, 3)))) (
   sndC (sd_aload_n (hi := rfl) (hd := (by decide +kernel : decode cX9_init 12 = .ok (.aload_n 0, 1)))) (
   sndC (sd_iconst (hd := (by decide +kernel : decode cX9_init 13 = .ok (.iconst (-1), 1))) (hv := by decide)) (
   sndC (sd_putI (C := RX9) (T := TX9) (N := 10) (hc := rfl) (hin0 := iX9) (hk := by decide) (hlink := w_286) (ty0 := tyX9) (hty := tyX9_ok) (hnm := nmX9) (hfin := rfl) (hi := rfl) (hd := (by decide +kernel : decode cX9_init 14 = .ok (.putfield 17, 3)))) (
   sndN)))))))))⟩


set_option maxRecDepth 20000 in
theorem GX9_become : Good mX9_become := ⟨by decide +kernel, List.mem_of_getElem? (i := 603) (by decide +kernel), inX9, ⟨by decide +kernel, by decide +kernel⟩, by decide, show ∀ q ∈ tX9_become, Snd mX9_become q.1 q.2 from
  sndC (sd_aload_n (hi := rfl) (hd := (by decide +kernel : decode cX9_become 0 = .ok (.aload_n 0, 1)))) (
   sndC (sd_iload_n (hi := rfl) (hd := (by decide +kernel : decode cX9_become 1 = .ok (.iload_n 1, 1)))) (
   sndC (sd_putI (C := RX9) (T := TX9) (N := 10) (hc := rfl) (hin0 := iX9) (hk := by decide) (hlink := w_275) (ty0 := tyX9) (hty := tyX9_ok) (hnm := nmX9) (hfin := rfl) (hi := rfl) (hd := (by decide +kernel : decode cX9_become 2 = .ok (.putfield 21, 3)))) (
   sndC (sd_aload_n (hi := rfl) (hd := (by decide +kernel : decode cX9_become 5 = .ok (.aload_n 0, 1)))) (
   sndC (sd_iload_n (hi := rfl) (hd := (by decide +kernel : decode cX9_become 6 = .ok (.iload_n 2, 1)))) (
   sndC (sd_putI (C := RX9) (T := TX9) (N := 10) (hc := rfl) (hin0 := iX9) (hk := by decide) (hlink := w_277) (ty0 := tyX9) (hty := tyX9_ok) (hnm := nmX9) (hfin := rfl) (hi := rfl) (hd := (by decide +kernel : decode cX9_become 7 = .ok (.putfield 24, 3)))) (
   sndC (sd_aload_n (hi := rfl) (hd := (by decide +kernel : decode cX9_become 10 = .ok (.aload_n 0, 1)))) (
   sndC (sd_iload_n (hi := rfl) (hd := (by decide +kernel : decode cX9_become 11 = .ok (.iload_n 3, 1)))) (
   sndC (sd_putI (C := RX9) (T := TX9) (N := 10) (hc := rfl) (hin0 := iX9) (hk := by decide) (hlink := w_280) (ty0 := tyX9) (hty := tyX9_ok) (hnm := nmX9) (hfin := rfl) (hi := rfl) (hd := (by decide +kernel : decode cX9_become 12 = .ok (.putfield 27, 3)))) (
   sndC (sd_aload_n (hi := rfl) (hd := (by decide +kernel : decode cX9_become 15 = .ok (.aload_n 0, 1)))) (
   sndC (sd_iconst (hd := (by decide +kernel : decode cX9_become 16 = .ok (.iconst 0, 1))) (hv := by decide)) (
   sndC (sd_putI (C := RX9) (T := TX9) (N := 10) (hc := rfl) (hin0 := iX9) (hk := by decide) (hlink := w_283) (ty0 := tyX9) (hty := tyX9_ok) (hnm := nmX9) (hfin := rfl) (hi := rfl) (hd := (by decide +kernel : decode cX9_become 17 = .ok (.putfield 30, 3)))) (
   sndN))))))))))))⟩


set_option maxRecDepth 20000 in
theorem GX9_learn : Good mX9_learn := ⟨by decide +kernel, List.mem_of_getElem? (i := 697) (by decide +kernel), inX9, ⟨by decide +kernel, by decide +kernel⟩, by decide, show ∀ q ∈ tX9_learn, Snd mX9_learn q.1 q.2 from
  sndC (sd_aload_n (hi := rfl) (hd := (by decide +kernel : decode cX9_learn 0 = .ok (.aload_n 0, 1)))) (
   sndC (sd_get (C := RX9) (T := TX9) (N := 10) (hc := rfl) (hin0 := iX9) (hk := by decide) (hlink := w_286) (hd := (by decide +kernel : decode cX9_learn 1 = .ok (.getfield 17, 3)))) (
   sndC (sd_iload_n (hi := rfl) (hd := (by decide +kernel : decode cX9_learn 4 = .ok (.iload_n 2, 1)))) (
   sndC (sd_cmp_ne (ht := by decide) (hd := (by decide +kernel : decode cX9_learn 5 = .ok (.if_icmp .ne 45, 3)))) (
   sndC (sd_aload_n (hi := rfl) (hd := (by decide +kernel : decode cX9_learn 8 = .ok (.aload_n 0, 1)))) (
   sndC (sd_get (C := RX9) (T := TX9) (N := 10) (hc := rfl) (hin0 := iX9) (hk := by decide) (hlink := w_287) (hd := (by decide +kernel : decode cX9_learn 9 = .ok (.getfield 33, 3)))) (
   sndC (sd_iload_n (hi := rfl) (hd := (by decide +kernel : decode cX9_learn 12 = .ok (.iload_n 3, 1)))) (
   sndC (sd_cmp_ne (ht := by decide) (hd := (by decide +kernel : decode cX9_learn 13 = .ok (.if_icmp .ne 37, 3)))) (
   sndC (sd_aload_n (hi := rfl) (hd := (by decide +kernel : decode cX9_learn 16 = .ok (.aload_n 0, 1)))) (
   sndC (sd_get (C := RX9) (T := TX9) (N := 10) (hc := rfl) (hin0 := iX9) (hk := by decide) (hlink := w_288) (hd := (by decide +kernel : decode cX9_learn 17 = .ok (.getfield 36, 3)))) (
   sndC (sd_aload_n (hi := rfl) (hd := (by decide +kernel : decode cX9_learn 20 = .ok (.aload_n 0, 1)))) (
   sndC (sd_get (C := RX9) (T := TX9) (N := 10) (hc := rfl) (hin0 := iX9) (hk := by decide) (hlink := w_275) (hd := (by decide +kernel : decode cX9_learn 21 = .ok (.getfield 21, 3)))) (
   sndC (sd_cmp_ne (ht := by decide) (hd := (by decide +kernel : decode cX9_learn 24 = .ok (.if_icmp .ne 26, 3)))) (
   sndC (sd_aload_n (hi := rfl) (hd := (by decide +kernel : decode cX9_learn 27 = .ok (.aload_n 0, 1)))) (
   sndC (sd_get (C := RX9) (T := TX9) (N := 10) (hc := rfl) (hin0 := iX9) (hk := by decide) (hlink := w_289) (hd := (by decide +kernel : decode cX9_learn 28 = .ok (.getfield 39, 3)))) (
   sndC (sd_aload_n (hi := rfl) (hd := (by decide +kernel : decode cX9_learn 31 = .ok (.aload_n 0, 1)))) (
   sndC (sd_get (C := RX9) (T := TX9) (N := 10) (hc := rfl) (hin0 := iX9) (hk := by decide) (hlink := w_277) (hd := (by decide +kernel : decode cX9_learn 32 = .ok (.getfield 24, 3)))) (
   sndC (sd_cmp_ne (ht := by decide) (hd := (by decide +kernel : decode cX9_learn 35 = .ok (.if_icmp .ne 15, 3)))) (
   sndC (sd_aload_n (hi := rfl) (hd := (by decide +kernel : decode cX9_learn 38 = .ok (.aload_n 0, 1)))) (
   sndC (sd_get (C := RX9) (T := TX9) (N := 10) (hc := rfl) (hin0 := iX9) (hk := by decide) (hlink := w_290) (hd := (by decide +kernel : decode cX9_learn 39 = .ok (.getfield 42, 3)))) (
   sndC (sd_aload_n (hi := rfl) (hd := (by decide +kernel : decode cX9_learn 42 = .ok (.aload_n 0, 1)))) (
   sndC (sd_get (C := RX9) (T := TX9) (N := 10) (hc := rfl) (hin0 := iX9) (hk := by decide) (hlink := w_280) (hd := (by decide +kernel : decode cX9_learn 43 = .ok (.getfield 27, 3)))) (
   sndC (sd_cmp_ne (ht := by decide) (hd := (by decide +kernel : decode cX9_learn 46 = .ok (.if_icmp .ne 4, 3)))) (
   sndC (sd_aload (hd := (by decide +kernel : decode cX9_learn 50 = .ok (.aload 4, 2)))) (
   sndC (sd_aload_n (hi := rfl) (hd := (by decide +kernel : decode cX9_learn 52 = .ok (.aload_n 0, 1)))) (
   sndC (sd_get (C := RX9) (T := TX9) (N := 10) (hc := rfl) (hin0 := iX9) (hk := by decide) (hlink := w_277) (hd := (by decide +kernel : decode cX9_learn 53 = .ok (.getfield 24, 3)))) (
   sndC (sd_aload_n (hi := rfl) (hd := (by decide +kernel : decode cX9_learn 56 = .ok (.aload_n 0, 1)))) (
   sndC (sd_get (C := RX9) (T := TX9) (N := 10) (hc := rfl) (hin0 := iX9) (hk := by decide) (hlink := w_280) (hd := (by decide +kernel : decode cX9_learn 57 = .ok (.getfield 27, 3)))) (
   sndC (sd_iconst (hd := (by decide +kernel : decode cX9_learn 63 = .ok (.iconst 0, 1))) (hv := by decide)) (
   sndC (sd_istore (hd := (by decide +kernel : decode cX9_learn 64 = .ok (.istore 5, 2)))) (
   sndC (sd_iload (hd := (by decide +kernel : decode cX9_learn 66 = .ok (.iload 5, 2)))) (
   sndC (sd_aload_n (hi := rfl) (hd := (by decide +kernel : decode cX9_learn 68 = .ok (.aload_n 0, 1)))) (
   sndC (sd_get (C := RX9) (T := TX9) (N := 10) (hc := rfl) (hin0 := iX9) (hk := by decide) (hlink := w_273) (hd := (by decide +kernel : decode cX9_learn 69 = .ok (.getfield 11, 3)))) (
   sndC (sd_len (hd := (by decide +kernel : decode cX9_learn 72 = .ok (.arraylength, 1)))) (
   sndC (sd_cmp_ge (ht := by decide) (hd := (by decide +kernel : decode cX9_learn 73 = .ok (.if_icmp .ge 58, 3)))) (
   sndC (sd_iload (hd := (by decide +kernel : decode cX9_learn 76 = .ok (.iload 5, 2)))) (
   sndC (sd_istore (hd := (by decide +kernel : decode cX9_learn 81 = .ok (.istore 6, 2)))) (
   sndC (sd_aload (hd := (by decide +kernel : decode cX9_learn 83 = .ok (.aload 4, 2)))) (
   sndC (sd_iload (hd := (by decide +kernel : decode cX9_learn 85 = .ok (.iload 6, 2)))) (
   sndC (sd_iload (hd := (by decide +kernel : decode cX9_learn 87 = .ok (.iload 5, 2)))) (
   sndC (sd_iload (hd := (by decide +kernel : decode cX9_learn 92 = .ok (.iload 5, 2)))) (
   sndC (sd_iload_n (hi := rfl) (hd := (by decide +kernel : decode cX9_learn 97 = .ok (.iload_n 3, 1)))) (
   sndC (sd_iload (hd := (by decide +kernel : decode cX9_learn 98 = .ok (.iload 6, 2)))) (
   sndC (sd_iadd (hd := (by decide +kernel : decode cX9_learn 100 = .ok (.iadd, 1)))) (
   sndC (sd_aload_n (hi := rfl) (hd := (by decide +kernel : decode cX9_learn 104 = .ok (.aload_n 0, 1)))) (
   sndC (sd_get (C := RX9) (T := TX9) (N := 10) (hc := rfl) (hin0 := iX9) (hk := by decide) (hlink := w_273) (hd := (by decide +kernel : decode cX9_learn 105 = .ok (.getfield 11, 3)))) (
   sndC (sd_iload (hd := (by decide +kernel : decode cX9_learn 108 = .ok (.iload 5, 2)))) (
   sndC (sd_aload_n (hi := rfl) (hd := (by decide +kernel : decode cX9_learn 110 = .ok (.aload_n 1, 1)))) (
   sndC (sd_aload (hd := (by decide +kernel : decode cX9_learn 111 = .ok (.aload 4, 2)))) (
   sndC (sd_aload_n (hi := rfl) (hd := (by decide +kernel : decode cX9_learn 113 = .ok (.aload_n 0, 1)))) (
   sndC (sd_get (C := RX9) (T := TX9) (N := 10) (hc := rfl) (hin0 := iX9) (hk := by decide) (hlink := w_275) (hd := (by decide +kernel : decode cX9_learn 114 = .ok (.getfield 21, 3)))) (
   sndC (sd_aload_n (hi := rfl) (hd := (by decide +kernel : decode cX9_learn 117 = .ok (.aload_n 0, 1)))) (
   sndC (sd_get (C := RX9) (T := TX9) (N := 10) (hc := rfl) (hin0 := iX9) (hk := by decide) (hlink := w_280) (hd := (by decide +kernel : decode cX9_learn 118 = .ok (.getfield 27, 3)))) (
   sndC (sd_iast (hd := (by decide +kernel : decode cX9_learn 124 = .ok (.iastore, 1)))) (
   sndC (sd_iinc (hv := by decide) (hd := (by decide +kernel : decode cX9_learn 125 = .ok (.iinc 5 1, 3)))) (
   sndC (sd_goto (ht := by decide) (hd := (by decide +kernel : decode cX9_learn 128 = .ok (.goto (-62), 3)))) (
   sndC (sd_aload_n (hi := rfl) (hd := (by decide +kernel : decode cX9_learn 131 = .ok (.aload_n 0, 1)))) (
   sndC (sd_iload_n (hi := rfl) (hd := (by decide +kernel : decode cX9_learn 132 = .ok (.iload_n 2, 1)))) (
   sndC (sd_putI (C := RX9) (T := TX9) (N := 10) (hc := rfl) (hin0 := iX9) (hk := by decide) (hlink := w_286) (ty0 := tyX9) (hty := tyX9_ok) (hnm := nmX9) (hfin := rfl) (hi := rfl) (hd := (by decide +kernel : decode cX9_learn 133 = .ok (.putfield 17, 3)))) (
   sndC (sd_aload_n (hi := rfl) (hd := (by decide +kernel : decode cX9_learn 136 = .ok (.aload_n 0, 1)))) (
   sndC (sd_iload_n (hi := rfl) (hd := (by decide +kernel : decode cX9_learn 137 = .ok (.iload_n 3, 1)))) (
   sndC (sd_putI (C := RX9) (T := TX9) (N := 10) (hc := rfl) (hin0 := iX9) (hk := by decide) (hlink := w_287) (ty0 := tyX9) (hty := tyX9_ok) (hnm := nmX9) (hfin := rfl) (hi := rfl) (hd := (by decide +kernel : decode cX9_learn 138 = .ok (.putfield 33, 3)))) (
   sndC (sd_aload_n (hi := rfl) (hd := (by decide +kernel : decode cX9_learn 141 = .ok (.aload_n 0, 1)))) (
   sndC (sd_aload_n (hi := rfl) (hd := (by decide +kernel : decode cX9_learn 142 = .ok (.aload_n 0, 1)))) (
   sndC (sd_get (C := RX9) (T := TX9) (N := 10) (hc := rfl) (hin0 := iX9) (hk := by decide) (hlink := w_275) (hd := (by decide +kernel : decode cX9_learn 143 = .ok (.getfield 21, 3)))) (
   sndC (sd_putI (C := RX9) (T := TX9) (N := 10) (hc := rfl) (hin0 := iX9) (hk := by decide) (hlink := w_288) (ty0 := tyX9) (hty := tyX9_ok) (hnm := nmX9) (hfin := rfl) (hi := rfl) (hd := (by decide +kernel : decode cX9_learn 146 = .ok (.putfield 36, 3)))) (
   sndC (sd_aload_n (hi := rfl) (hd := (by decide +kernel : decode cX9_learn 149 = .ok (.aload_n 0, 1)))) (
   sndC (sd_aload_n (hi := rfl) (hd := (by decide +kernel : decode cX9_learn 150 = .ok (.aload_n 0, 1)))) (
   sndC (sd_get (C := RX9) (T := TX9) (N := 10) (hc := rfl) (hin0 := iX9) (hk := by decide) (hlink := w_277) (hd := (by decide +kernel : decode cX9_learn 151 = .ok (.getfield 24, 3)))) (
   sndC (sd_putI (C := RX9) (T := TX9) (N := 10) (hc := rfl) (hin0 := iX9) (hk := by decide) (hlink := w_289) (ty0 := tyX9) (hty := tyX9_ok) (hnm := nmX9) (hfin := rfl) (hi := rfl) (hd := (by decide +kernel : decode cX9_learn 154 = .ok (.putfield 39, 3)))) (
   sndC (sd_aload_n (hi := rfl) (hd := (by decide +kernel : decode cX9_learn 157 = .ok (.aload_n 0, 1)))) (
   sndC (sd_aload_n (hi := rfl) (hd := (by decide +kernel : decode cX9_learn 158 = .ok (.aload_n 0, 1)))) (
   sndC (sd_get (C := RX9) (T := TX9) (N := 10) (hc := rfl) (hin0 := iX9) (hk := by decide) (hlink := w_280) (hd := (by decide +kernel : decode cX9_learn 159 = .ok (.getfield 27, 3)))) (
   sndC (sd_putI (C := RX9) (T := TX9) (N := 10) (hc := rfl) (hin0 := iX9) (hk := by decide) (hlink := w_290) (ty0 := tyX9) (hty := tyX9_ok) (hnm := nmX9) (hfin := rfl) (hi := rfl) (hd := (by decide +kernel : decode cX9_learn 162 = .ok (.putfield 42, 3)))) (
   sndN))))))))))))))))))))))))))))))))))))))))))))))))))))))))))))))))))))))))))⟩
theorem kX9_learn_60 : CallAt mX9_learn 60 0 mX3_ofWitness 2 := ⟨by decide +kernel, ⟨_, (by decide +kernel : decode cX9_learn 60 = .ok (.invokevirtual 45, 3)), w_698, w_613, w_614⟩⟩
theorem kX9_learn_78 : CallAt mX9_learn 78 1 mX5_stepOf 1 := ⟨by decide +kernel, ⟨_, (by decide +kernel : decode cX9_learn 78 = .ok (.invokestatic 51, 3)), w_699, w_700⟩⟩
theorem kX9_learn_89 : CallAt mX9_learn 89 1 mX5_doingOf 1 := ⟨by decide +kernel, ⟨_, (by decide +kernel : decode cX9_learn 89 = .ok (.invokestatic 55, 3)), w_702, w_703⟩⟩
theorem kX9_learn_94 : CallAt mX9_learn 94 1 mX5_lastOf 1 := ⟨by decide +kernel, ⟨_, (by decide +kernel : decode cX9_learn 94 = .ok (.invokestatic 58, 3)), w_705, w_706⟩⟩
theorem kX9_learn_101 : CallAt mX9_learn 101 0 mX3_ofStep 4 := ⟨by decide +kernel, ⟨_, (by decide +kernel : decode cX9_learn 101 = .ok (.invokevirtual 61, 3)), w_708, w_623, w_624⟩⟩
theorem kX9_learn_121 : CallAt mX9_learn 121 1 mX1_telling 4 := ⟨by decide +kernel, ⟨_, (by decide +kernel : decode cX9_learn 121 = .ok (.invokestatic 65, 3)), w_709, w_657⟩⟩

set_option maxRecDepth 20000 in
theorem GJ6_bitCount_0f7a4 : Good mJ6_bitCount_0f7a4 := ⟨by decide +kernel, List.mem_of_getElem? (i := 618) (by decide +kernel), inJ6, ⟨by decide +kernel, by decide +kernel⟩, by decide, show ∀ q ∈ tJ6_bitCount_0f7a4, Snd mJ6_bitCount_0f7a4 q.1 q.2 from
  sndC (sd_iload_n (hi := rfl) (hd := (by decide +kernel : decode cJ6_bitCount_0f7a4 0 = .ok (.iload_n 0, 1)))) (
   sndC (sd_iload_n (hi := rfl) (hd := (by decide +kernel : decode cJ6_bitCount_0f7a4 1 = .ok (.iload_n 0, 1)))) (
   sndC (sd_iconst (hd := (by decide +kernel : decode cJ6_bitCount_0f7a4 2 = .ok (.iconst 1, 1))) (hv := by decide)) (
   sndC (sd_iushr (hd := (by decide +kernel : decode cJ6_bitCount_0f7a4 3 = .ok (.iushr, 1)))) (
   sndC (sd_ldcw (hw := w_619) (hd := (by decide +kernel : decode cJ6_bitCount_0f7a4 4 = .ok (.ldc_w 265, 3)))) (
   sndC (sd_iand (hd := (by decide +kernel : decode cJ6_bitCount_0f7a4 7 = .ok (.iand, 1)))) (
   sndC (sd_isub (hd := (by decide +kernel : decode cJ6_bitCount_0f7a4 8 = .ok (.isub, 1)))) (
   sndC (sd_istore_n (hi := rfl) (hd := (by decide +kernel : decode cJ6_bitCount_0f7a4 9 = .ok (.istore_n 0, 1)))) (
   sndC (sd_iload_n (hi := rfl) (hd := (by decide +kernel : decode cJ6_bitCount_0f7a4 10 = .ok (.iload_n 0, 1)))) (
   sndC (sd_ldcw (hw := w_620) (hd := (by decide +kernel : decode cJ6_bitCount_0f7a4 11 = .ok (.ldc_w 266, 3)))) (
   sndC (sd_iand (hd := (by decide +kernel : decode cJ6_bitCount_0f7a4 14 = .ok (.iand, 1)))) (
   sndC (sd_iload_n (hi := rfl) (hd := (by decide +kernel : decode cJ6_bitCount_0f7a4 15 = .ok (.iload_n 0, 1)))) (
   sndC (sd_iconst (hd := (by decide +kernel : decode cJ6_bitCount_0f7a4 16 = .ok (.iconst 2, 1))) (hv := by decide)) (
   sndC (sd_iushr (hd := (by decide +kernel : decode cJ6_bitCount_0f7a4 17 = .ok (.iushr, 1)))) (
   sndC (sd_ldcw (hw := w_620) (hd := (by decide +kernel : decode cJ6_bitCount_0f7a4 18 = .ok (.ldc_w 266, 3)))) (
   sndC (sd_iand (hd := (by decide +kernel : decode cJ6_bitCount_0f7a4 21 = .ok (.iand, 1)))) (
   sndC (sd_iadd (hd := (by decide +kernel : decode cJ6_bitCount_0f7a4 22 = .ok (.iadd, 1)))) (
   sndC (sd_istore_n (hi := rfl) (hd := (by decide +kernel : decode cJ6_bitCount_0f7a4 23 = .ok (.istore_n 0, 1)))) (
   sndC (sd_iload_n (hi := rfl) (hd := (by decide +kernel : decode cJ6_bitCount_0f7a4 24 = .ok (.iload_n 0, 1)))) (
   sndC (sd_iload_n (hi := rfl) (hd := (by decide +kernel : decode cJ6_bitCount_0f7a4 25 = .ok (.iload_n 0, 1)))) (
   sndC (sd_iconst (hd := (by decide +kernel : decode cJ6_bitCount_0f7a4 26 = .ok (.iconst 4, 1))) (hv := by decide)) (
   sndC (sd_iushr (hd := (by decide +kernel : decode cJ6_bitCount_0f7a4 27 = .ok (.iushr, 1)))) (
   sndC (sd_iadd (hd := (by decide +kernel : decode cJ6_bitCount_0f7a4 28 = .ok (.iadd, 1)))) (
   sndC (sd_ldcw (hw := w_621) (hd := (by decide +kernel : decode cJ6_bitCount_0f7a4 29 = .ok (.ldc_w 267, 3)))) (
   sndC (sd_iand (hd := (by decide +kernel : decode cJ6_bitCount_0f7a4 32 = .ok (.iand, 1)))) (
   sndC (sd_istore_n (hi := rfl) (hd := (by decide +kernel : decode cJ6_bitCount_0f7a4 33 = .ok (.istore_n 0, 1)))) (
   sndC (sd_iload_n (hi := rfl) (hd := (by decide +kernel : decode cJ6_bitCount_0f7a4 34 = .ok (.iload_n 0, 1)))) (
   sndC (sd_iload_n (hi := rfl) (hd := (by decide +kernel : decode cJ6_bitCount_0f7a4 35 = .ok (.iload_n 0, 1)))) (
   sndC (sd_bipush (hd := (by decide +kernel : decode cJ6_bitCount_0f7a4 36 = .ok (.bipush 8, 2))) (hv := by decide)) (
   sndC (sd_iushr (hd := (by decide +kernel : decode cJ6_bitCount_0f7a4 38 = .ok (.iushr, 1)))) (
   sndC (sd_iadd (hd := (by decide +kernel : decode cJ6_bitCount_0f7a4 39 = .ok (.iadd, 1)))) (
   sndC (sd_istore_n (hi := rfl) (hd := (by decide +kernel : decode cJ6_bitCount_0f7a4 40 = .ok (.istore_n 0, 1)))) (
   sndC (sd_iload_n (hi := rfl) (hd := (by decide +kernel : decode cJ6_bitCount_0f7a4 41 = .ok (.iload_n 0, 1)))) (
   sndC (sd_iload_n (hi := rfl) (hd := (by decide +kernel : decode cJ6_bitCount_0f7a4 42 = .ok (.iload_n 0, 1)))) (
   sndC (sd_bipush (hd := (by decide +kernel : decode cJ6_bitCount_0f7a4 43 = .ok (.bipush 16, 2))) (hv := by decide)) (
   sndC (sd_iushr (hd := (by decide +kernel : decode cJ6_bitCount_0f7a4 45 = .ok (.iushr, 1)))) (
   sndC (sd_iadd (hd := (by decide +kernel : decode cJ6_bitCount_0f7a4 46 = .ok (.iadd, 1)))) (
   sndC (sd_istore_n (hi := rfl) (hd := (by decide +kernel : decode cJ6_bitCount_0f7a4 47 = .ok (.istore_n 0, 1)))) (
   sndC (sd_iload_n (hi := rfl) (hd := (by decide +kernel : decode cJ6_bitCount_0f7a4 48 = .ok (.iload_n 0, 1)))) (
   sndC (sd_bipush (hd := (by decide +kernel : decode cJ6_bitCount_0f7a4 49 = .ok (.bipush 63, 2))) (hv := by decide)) (
   sndC (sd_iand (hd := (by decide +kernel : decode cJ6_bitCount_0f7a4 51 = .ok (.iand, 1)))) (
   sndN)))))))))))))))))))))))))))))))))))))))))⟩


set_option maxRecDepth 20000 in
theorem GJ0_length_8abf5 : Good mJ0_length_8abf5 := ⟨by decide +kernel, List.mem_of_getElem? (i := 334) (by decide +kernel), inJ0, ⟨by decide +kernel, by decide +kernel⟩, by decide, show ∀ q ∈ tJ0_length_8abf5, Snd mJ0_length_8abf5 q.1 q.2 from
  sndC (sd_aload_n (hi := rfl) (hd := (by decide +kernel : decode cJ0_length_8abf5 0 = .ok (.aload_n 0, 1)))) (
   sndC (sd_strVal (hl := w_1585) (hd := (by decide +kernel : decode cJ0_length_8abf5 1 = .ok (.getfield 9, 3)))) (
   sndC (sd_len (hd := (by decide +kernel : decode cJ0_length_8abf5 4 = .ok (.arraylength, 1)))) (
   sndC (sd_aload_n (hi := rfl) (hd := (by decide +kernel : decode cJ0_length_8abf5 5 = .ok (.aload_n 0, 1)))) (
   sndC (sd_ishr (hd := (by decide +kernel : decode cJ0_length_8abf5 9 = .ok (.ishr, 1)))) (
   sndN)))))⟩
theorem kJ0_length_8abf5_6 : CallAt mJ0_length_8abf5 6 0 mJ0_coder_7d493 0 := ⟨by decide +kernel, ⟨_, (by decide +kernel : decode cJ0_length_8abf5 6 = .ok (.invokevirtual 335, 3)), w_335, w_336, w_337⟩⟩

set_option maxRecDepth 20000 in
theorem GJ0_charAt_5068e : Good mJ0_charAt_5068e := ⟨by decide +kernel, List.mem_of_getElem? (i := 344) (by decide +kernel), inJ0, ⟨by decide +kernel, by decide +kernel⟩, by decide, show ∀ q ∈ tJ0_charAt_5068e, Snd mJ0_charAt_5068e q.1 q.2 from
  sndC (sd_aload_n (hi := rfl) (hd := (by decide +kernel : decode cJ0_charAt_5068e 0 = .ok (.aload_n 0, 1)))) (
   sndC (sd_if_eq (ht := by decide) (hd := (by decide +kernel : decode cJ0_charAt_5068e 4 = .ok (.ifCond .eq 12, 3)))) (
   sndC (sd_aload_n (hi := rfl) (hd := (by decide +kernel : decode cJ0_charAt_5068e 7 = .ok (.aload_n 0, 1)))) (
   sndC (sd_strVal (hl := w_1585) (hd := (by decide +kernel : decode cJ0_charAt_5068e 8 = .ok (.getfield 9, 3)))) (
   sndC (sd_iload_n (hi := rfl) (hd := (by decide +kernel : decode cJ0_charAt_5068e 11 = .ok (.iload_n 1, 1)))) (
   sndC (sd_aload_n (hi := rfl) (hd := (by decide +kernel : decode cJ0_charAt_5068e 16 = .ok (.aload_n 0, 1)))) (
   sndC (sd_strVal (hl := w_1585) (hd := (by decide +kernel : decode cJ0_charAt_5068e 17 = .ok (.getfield 9, 3)))) (
   sndC (sd_iload_n (hi := rfl) (hd := (by decide +kernel : decode cJ0_charAt_5068e 20 = .ok (.iload_n 1, 1)))) (
   sndN))))))))⟩
theorem kJ0_charAt_5068e_1 : CallAt mJ0_charAt_5068e 1 0 mJ0_isLatin1_aae02 0 := ⟨by decide +kernel, ⟨_, (by decide +kernel : decode cJ0_charAt_5068e 1 = .ok (.invokevirtual 492, 3)), w_345, w_346, w_347⟩⟩
theorem kJ0_charAt_5068e_12 : CallAt mJ0_charAt_5068e 12 1 mJ1_charAt_3b067 2 := ⟨by decide +kernel, ⟨_, (by decide +kernel : decode cJ0_charAt_5068e 12 = .ok (.invokestatic 495, 3)), w_349, w_350⟩⟩

set_option maxRecDepth 20000 in
theorem GJ0_coder_7d493 : Good mJ0_coder_7d493 := ⟨by decide +kernel, List.mem_of_getElem? (i := 338) (by decide +kernel), inJ0, ⟨by decide +kernel, by decide +kernel⟩, by decide, show ∀ q ∈ tJ0_coder_7d493, Snd mJ0_coder_7d493 q.1 q.2 from
  sndC (sd_compact (hl := w_339) (hd := (by decide +kernel : decode cJ0_coder_7d493 0 = .ok (.getstatic 38, 3)))) (
   sndC (sd_if_eq (ht := by decide) (hd := (by decide +kernel : decode cJ0_coder_7d493 3 = .ok (.ifCond .eq 10, 3)))) (
   sndC (sd_aload_n (hi := rfl) (hd := (by decide +kernel : decode cJ0_coder_7d493 6 = .ok (.aload_n 0, 1)))) (
   sndC (sd_strCod (hl := w_1586) (hd := (by decide +kernel : decode cJ0_coder_7d493 7 = .ok (.getfield 15, 3)))) (
   sndC (sd_goto (ht := by decide) (hd := (by decide +kernel : decode cJ0_coder_7d493 10 = .ok (.goto 4, 3)))) (
   sndC (sd_iconst (hd := (by decide +kernel : decode cJ0_coder_7d493 13 = .ok (.iconst 1, 1))) (hv := by decide)) (
   sndN))))))⟩


set_option maxRecDepth 20000 in
theorem GJ0_isLatin1_aae02 : Good mJ0_isLatin1_aae02 := ⟨by decide +kernel, List.mem_of_getElem? (i := 348) (by decide +kernel), inJ0, ⟨by decide +kernel, by decide +kernel⟩, by decide, show ∀ q ∈ tJ0_isLatin1_aae02, Snd mJ0_isLatin1_aae02 q.1 q.2 from
  sndC (sd_compact (hl := w_339) (hd := (by decide +kernel : decode cJ0_isLatin1_aae02 0 = .ok (.getstatic 38, 3)))) (
   sndC (sd_if_eq (ht := by decide) (hd := (by decide +kernel : decode cJ0_isLatin1_aae02 3 = .ok (.ifCond .eq 14, 3)))) (
   sndC (sd_aload_n (hi := rfl) (hd := (by decide +kernel : decode cJ0_isLatin1_aae02 6 = .ok (.aload_n 0, 1)))) (
   sndC (sd_strCod (hl := w_1586) (hd := (by decide +kernel : decode cJ0_isLatin1_aae02 7 = .ok (.getfield 15, 3)))) (
   sndC (sd_if_ne (ht := by decide) (hd := (by decide +kernel : decode cJ0_isLatin1_aae02 10 = .ok (.ifCond .ne 7, 3)))) (
   sndC (sd_iconst (hd := (by decide +kernel : decode cJ0_isLatin1_aae02 13 = .ok (.iconst 1, 1))) (hv := by decide)) (
   sndC (sd_goto (ht := by decide) (hd := (by decide +kernel : decode cJ0_isLatin1_aae02 14 = .ok (.goto 4, 3)))) (
   sndC (sd_iconst (hd := (by decide +kernel : decode cJ0_isLatin1_aae02 17 = .ok (.iconst 0, 1))) (hv := by decide)) (
   sndN))))))))⟩


set_option maxRecDepth 20000 in
theorem GJ0_checkIndex_df160 : Good mJ0_checkIndex_df160 := ⟨by decide +kernel, List.mem_of_getElem? (i := 354) (by decide +kernel), inJ0, ⟨by decide +kernel, by decide +kernel⟩, by decide, show ∀ q ∈ tJ0_checkIndex_df160, Snd mJ0_checkIndex_df160 q.1 q.2 from
  sndC (sd_iload_n (hi := rfl) (hd := (by decide +kernel : decode cJ0_checkIndex_df160 0 = .ok (.iload_n 0, 1)))) (
   sndC (sd_iload_n (hi := rfl) (hd := (by decide +kernel : decode cJ0_checkIndex_df160 1 = .ok (.iload_n 1, 1)))) (
   sndC (sd_pop (hd := (by decide +kernel : decode cJ0_checkIndex_df160 8 = .ok (.pop, 1)))) (
   sndN)))⟩
theorem kJ0_checkIndex_df160_5 : CallAt mJ0_checkIndex_df160 5 1 mJ3_checkIndex_8e157 3 := ⟨by decide +kernel, ⟨_, (by decide +kernel : decode cJ0_checkIndex_df160 5 = .ok (.invokestatic 1059, 3)), w_357, w_358⟩⟩

set_option maxRecDepth 20000 in
theorem GJ1_charAt_3b067 : Good mJ1_charAt_3b067 := ⟨by decide +kernel, List.mem_of_getElem? (i := 351) (by decide +kernel), inJ1, ⟨by decide +kernel, by decide +kernel⟩, by decide, show ∀ q ∈ tJ1_charAt_3b067, Snd mJ1_charAt_3b067 q.1 q.2 from
  sndC (sd_iload_n (hi := rfl) (hd := (by decide +kernel : decode cJ1_charAt_3b067 0 = .ok (.iload_n 1, 1)))) (
   sndC (sd_aload_n (hi := rfl) (hd := (by decide +kernel : decode cJ1_charAt_3b067 1 = .ok (.aload_n 0, 1)))) (
   sndC (sd_strLen (hd := (by decide +kernel : decode cJ1_charAt_3b067 2 = .ok (.arraylength, 1)))) (
   sndC (sd_aload_n (hi := rfl) (hd := (by decide +kernel : decode cJ1_charAt_3b067 6 = .ok (.aload_n 0, 1)))) (
   sndC (sd_iload_n (hi := rfl) (hd := (by decide +kernel : decode cJ1_charAt_3b067 7 = .ok (.iload_n 1, 1)))) (
   sndC (sd_strLd (hd := (by decide +kernel : decode cJ1_charAt_3b067 8 = .ok (.baload, 1)))) (
   sndC (sd_sipush (hd := (by decide +kernel : decode cJ1_charAt_3b067 9 = .ok (.sipush 255, 3))) (hv := by decide)) (
   sndC (sd_iand (hd := (by decide +kernel : decode cJ1_charAt_3b067 12 = .ok (.iand, 1)))) (
   sndC (sd_i2c (hd := (by decide +kernel : decode cJ1_charAt_3b067 13 = .ok (.i2c, 1)))) (
   sndN)))))))))⟩
theorem kJ1_charAt_3b067_3 : CallAt mJ1_charAt_3b067 3 1 mJ0_checkIndex_df160 2 := ⟨by decide +kernel, ⟨_, (by decide +kernel : decode cJ1_charAt_3b067 3 = .ok (.invokestatic 9, 3)), w_352, w_353⟩⟩

set_option maxRecDepth 20000 in
theorem GJ7_fill_53178 : Good mJ7_fill_53178 := ⟨by decide +kernel, List.mem_of_getElem? (i := 693) (by decide +kernel), inJ7, ⟨by decide +kernel, by decide +kernel⟩, by decide, show ∀ q ∈ tJ7_fill_53178, Snd mJ7_fill_53178 q.1 q.2 from
  sndC (sd_iconst (hd := (by decide +kernel : decode cJ7_fill_53178 0 = .ok (.iconst 0, 1))) (hv := by decide)) (
   sndC (sd_istore_n (hi := rfl) (hd := (by decide +kernel : decode cJ7_fill_53178 1 = .ok (.istore_n 2, 1)))) (
   sndC (sd_aload_n (hi := rfl) (hd := (by decide +kernel : decode cJ7_fill_53178 2 = .ok (.aload_n 0, 1)))) (
   sndC (sd_len (hd := (by decide +kernel : decode cJ7_fill_53178 3 = .ok (.arraylength, 1)))) (
   sndC (sd_istore_n (hi := rfl) (hd := (by decide +kernel : decode cJ7_fill_53178 4 = .ok (.istore_n 3, 1)))) (
   sndC (sd_iload_n (hi := rfl) (hd := (by decide +kernel : decode cJ7_fill_53178 5 = .ok (.iload_n 2, 1)))) (
   sndC (sd_iload_n (hi := rfl) (hd := (by decide +kernel : decode cJ7_fill_53178 6 = .ok (.iload_n 3, 1)))) (
   sndC (sd_cmp_ge (ht := by decide) (hd := (by decide +kernel : decode cJ7_fill_53178 7 = .ok (.if_icmp .ge 13, 3)))) (
   sndC (sd_aload_n (hi := rfl) (hd := (by decide +kernel : decode cJ7_fill_53178 10 = .ok (.aload_n 0, 1)))) (
   sndC (sd_iload_n (hi := rfl) (hd := (by decide +kernel : decode cJ7_fill_53178 11 = .ok (.iload_n 2, 1)))) (
   sndC (sd_iload_n (hi := rfl) (hd := (by decide +kernel : decode cJ7_fill_53178 12 = .ok (.iload_n 1, 1)))) (
   sndC (sd_iast (hd := (by decide +kernel : decode cJ7_fill_53178 13 = .ok (.iastore, 1)))) (
   sndC (sd_iinc (hv := by decide) (hd := (by decide +kernel : decode cJ7_fill_53178 14 = .ok (.iinc 2 1, 3)))) (
   sndC (sd_goto (ht := by decide) (hd := (by decide +kernel : decode cJ7_fill_53178 17 = .ok (.goto (-12), 3)))) (
   sndN))))))))))))))⟩


set_option maxRecDepth 20000 in
theorem GJ7_copyOf_59c91 : Good mJ7_copyOf_59c91 := ⟨by decide +kernel, List.mem_of_getElem? (i := 483) (by decide +kernel), inJ7, ⟨by decide +kernel, by decide +kernel⟩, by decide, show ∀ q ∈ tJ7_copyOf_59c91, Snd mJ7_copyOf_59c91 q.1 q.2 from
  sndC (sd_iload_n (hi := rfl) (hd := (by decide +kernel : decode cJ7_copyOf_59c91 0 = .ok (.iload_n 1, 1)))) (
   sndC (sd_aload_n (hi := rfl) (hd := (by decide +kernel : decode cJ7_copyOf_59c91 1 = .ok (.aload_n 0, 1)))) (
   sndC (sd_len (hd := (by decide +kernel : decode cJ7_copyOf_59c91 2 = .ok (.arraylength, 1)))) (
   sndC (sd_cmp_ne (ht := by decide) (hd := (by decide +kernel : decode cJ7_copyOf_59c91 3 = .ok (.if_icmp .ne 11, 3)))) (
   sndC (sd_aload_n (hi := rfl) (hd := (by decide +kernel : decode cJ7_copyOf_59c91 6 = .ok (.aload_n 0, 1)))) (
   sndC (sd_clone (hl := w_484) (hs0 := w_485) (hn0 := w_486) (hi0 := w_487) (hse := w_488) (hca := w_489) (hd := (by decide +kernel : decode cJ7_copyOf_59c91 7 = .ok (.invokevirtual 316, 3)))) (
   sndC (sd_castI (hl := w_490) (hd := (by decide +kernel : decode cJ7_copyOf_59c91 10 = .ok (.checkcast 317, 3)))) (
   sndC (sd_iload_n (hi := rfl) (hd := (by decide +kernel : decode cJ7_copyOf_59c91 14 = .ok (.iload_n 1, 1)))) (
   sndC (sd_newI (hw0 := w_178) (hd := (by decide +kernel : decode cJ7_copyOf_59c91 15 = .ok (.newarray .int, 2)))) (
   sndC (sd_astore_n (hi := rfl) (hd := (by decide +kernel : decode cJ7_copyOf_59c91 17 = .ok (.astore_n 2, 1)))) (
   sndC (sd_aload_n (hi := rfl) (hd := (by decide +kernel : decode cJ7_copyOf_59c91 18 = .ok (.aload_n 0, 1)))) (
   sndC (sd_iconst (hd := (by decide +kernel : decode cJ7_copyOf_59c91 19 = .ok (.iconst 0, 1))) (hv := by decide)) (
   sndC (sd_aload_n (hi := rfl) (hd := (by decide +kernel : decode cJ7_copyOf_59c91 20 = .ok (.aload_n 2, 1)))) (
   sndC (sd_iconst (hd := (by decide +kernel : decode cJ7_copyOf_59c91 21 = .ok (.iconst 0, 1))) (hv := by decide)) (
   sndC (sd_aload_n (hi := rfl) (hd := (by decide +kernel : decode cJ7_copyOf_59c91 22 = .ok (.aload_n 0, 1)))) (
   sndC (sd_len (hd := (by decide +kernel : decode cJ7_copyOf_59c91 23 = .ok (.arraylength, 1)))) (
   sndC (sd_iload_n (hi := rfl) (hd := (by decide +kernel : decode cJ7_copyOf_59c91 24 = .ok (.iload_n 1, 1)))) (
   sndC (sd_min (hl := w_491) (hs0 := w_492) (hi0 := w_133) (hc0 := w_493) (hd := (by decide +kernel : decode cJ7_copyOf_59c91 25 = .ok (.invokestatic 304, 3)))) (
   sndC (sd_copy (hl := w_494) (hn0 := w_496) (hs0 := w_495) (hi0 := w_135) (hd := (by decide +kernel : decode cJ7_copyOf_59c91 28 = .ok (.invokestatic 150, 3)))) (
   sndC (sd_aload_n (hi := rfl) (hd := (by decide +kernel : decode cJ7_copyOf_59c91 31 = .ok (.aload_n 2, 1)))) (
   sndN))))))))))))))))))))⟩


set_option maxRecDepth 20000 in
theorem GJ3_checkIndex_8e157 : Good mJ3_checkIndex_8e157 := ⟨by decide +kernel, List.mem_of_getElem? (i := 359) (by decide +kernel), inJ3, ⟨by decide +kernel, by decide +kernel⟩, by decide, show ∀ q ∈ tJ3_checkIndex_8e157, Snd mJ3_checkIndex_8e157 q.1 q.2 from
  sndC (sd_iload_n (hi := rfl) (hd := (by decide +kernel : decode cJ3_checkIndex_8e157 0 = .ok (.iload_n 0, 1)))) (
   sndC (sd_if_lt (ht := by decide) (hd := (by decide +kernel : decode cJ3_checkIndex_8e157 1 = .ok (.ifCond .lt 8, 3)))) (
   sndC (sd_iload_n (hi := rfl) (hd := (by decide +kernel : decode cJ3_checkIndex_8e157 4 = .ok (.iload_n 0, 1)))) (
   sndC (sd_iload_n (hi := rfl) (hd := (by decide +kernel : decode cJ3_checkIndex_8e157 5 = .ok (.iload_n 1, 1)))) (
   sndC (sd_cmp_lt (ht := by decide) (hd := (by decide +kernel : decode cJ3_checkIndex_8e157 6 = .ok (.if_icmp .lt 10, 3)))) (
   sndC (sd_aload_n (hi := rfl) (hd := (by decide +kernel : decode cJ3_checkIndex_8e157 9 = .ok (.aload_n 2, 1)))) (
   sndC (sd_iload_n (hi := rfl) (hd := (by decide +kernel : decode cJ3_checkIndex_8e157 10 = .ok (.iload_n 0, 1)))) (
   sndC (sd_iload_n (hi := rfl) (hd := (by decide +kernel : decode cJ3_checkIndex_8e157 11 = .ok (.iload_n 1, 1)))) (
   sndC (sd_iload_n (hi := rfl) (hd := (by decide +kernel : decode cJ3_checkIndex_8e157 16 = .ok (.iload_n 0, 1)))) (
   sndN)))))))))⟩

