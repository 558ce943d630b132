/-! ===== printed by program: words, tables of the methods, call sites ===== -/
set_option maxRecDepth 20000 in
theorem GX2_init : Good mX2_init := ⟨by decide +kernel, List.mem_of_getElem? (i := 215) (by decide +kernel), inX2, ⟨by decide +kernel, by decide +kernel⟩, by decide, show ∀ q ∈ tX2_init, Snd mX2_init q.1 q.2 from
  sndC (sd_aload_n (hi := rfl) (hd := (by decide +kernel : decode cX2_init 0 = .ok (.aload_n 0, 1)))) (
   sndC (sd_objInit (hl := w_216) (hi0 := w_145) (hc0 := w_146) (hd := (by decide +kernel : decode cX2_init 1 = .ok (.invokespecial 3, 3)))) (
   sndC (sd_aload_n (hi := rfl) (hd := (by decide +kernel : decode cX2_init 4 = .ok (.aload_n 0, 1)))) (
   sndC (sd_bipush (hd := (by decide +kernel : decode cX2_init 5 = .ok (.bipush 96, 2))) (hv := by decide)) (
   sndC (sd_newI (hw0 := w_178) (hd := (by decide +kernel : decode cX2_init 7 = .ok (.newarray .int, 2)))) (
   sndC (sd_putAF (C := RX2) (T := TX2) (N := 5) (hc := rfl) (hin0 := iX2) (hk := by decide) (hlink := w_217) (ty0 := tyX2) (hty := tyX2_ok) (hnm := nmX2) (hfin := rfl) (hi2 := rfl) (hdecl := rfl) (hi := .inr ⟨_, rfl⟩) (hd := (by decide +kernel : decode cX2_init 9 = .ok (.putfield 11, 3)))) (
   sndC (sd_aload_n (hi := rfl) (hd := (by decide +kernel : decode cX2_init 12 = .ok (.aload_n 0, 1)))) (
   sndC (sd_bipush (hd := (by decide +kernel : decode cX2_init 13 = .ok (.bipush 28, 2))) (hv := by decide)) (
   sndC (sd_newI (hw0 := w_178) (hd := (by decide +kernel : decode cX2_init 15 = .ok (.newarray .int, 2)))) (
   sndC (sd_putAF (C := RX2) (T := TX2) (N := 5) (hc := rfl) (hin0 := iX2) (hk := by decide) (hlink := w_218) (ty0 := tyX2) (hty := tyX2_ok) (hnm := nmX2) (hfin := rfl) (hi2 := rfl) (hdecl := rfl) (hi := .inr ⟨_, rfl⟩) (hd := (by decide +kernel : decode cX2_init 17 = .ok (.putfield 17, 3)))) (
   sndC (sd_aload_n (hi := rfl) (hd := (by decide +kernel : decode cX2_init 20 = .ok (.aload_n 0, 1)))) (
   sndC (sd_bipush (hd := (by decide +kernel : decode cX2_init 21 = .ok (.bipush 28, 2))) (hv := by decide)) (
   sndC (sd_newI (hw0 := w_178) (hd := (by decide +kernel : decode cX2_init 23 = .ok (.newarray .int, 2)))) (
   sndC (sd_putAF (C := RX2) (T := TX2) (N := 5) (hc := rfl) (hin0 := iX2) (hk := by decide) (hlink := w_219) (ty0 := tyX2) (hty := tyX2_ok) (hnm := nmX2) (hfin := rfl) (hi2 := rfl) (hdecl := rfl) (hi := .inr ⟨_, rfl⟩) (hd := (by decide +kernel : decode cX2_init 25 = .ok (.putfield 20, 3)))) (
   sndC (sd_aload_n (hi := rfl) (hd := (by decide +kernel : decode cX2_init 28 = .ok (.aload_n 0, 1)))) (
   sndC (sd_bipush (hd := (by decide +kernel : decode cX2_init 29 = .ok (.bipush 28, 2))) (hv := by decide)) (
   sndC (sd_newI (hw0 := w_178) (hd := (by decide +kernel : decode cX2_init 31 = .ok (.newarray .int, 2)))) (
   sndC (sd_putAF (C := RX2) (T := TX2) (N := 5) (hc := rfl) (hin0 := iX2) (hk := by decide) (hlink := w_220) (ty0 := tyX2) (hty := tyX2_ok) (hnm := nmX2) (hfin := rfl) (hi2 := rfl) (hdecl := rfl) (hi := .inr ⟨_, rfl⟩) (hd := (by decide +kernel : decode cX2_init 33 = .ok (.putfield 23, 3)))) (
   sndN))))))))))))))))))⟩


set_option maxRecDepth 20000 in
theorem GX2_forget : Good mX2_forget := ⟨by decide +kernel, List.mem_of_getElem? (i := 690) (by decide +kernel), inX2, ⟨by decide +kernel, by decide +kernel⟩, by decide, show ∀ q ∈ tX2_forget, Snd mX2_forget q.1 q.2 from
  sndC (sd_aload_n (hi := rfl) (hd := (by decide +kernel : decode cX2_forget 0 = .ok (.aload_n 0, 1)))) (
   sndC (sd_get (C := RX2) (T := TX2) (N := 5) (hc := rfl) (hin0 := iX2) (hk := by decide) (hlink := w_217) (hd := (by decide +kernel : decode cX2_forget 1 = .ok (.getfield 11, 3)))) (
   sndC (sd_iconst (hd := (by decide +kernel : decode cX2_forget 4 = .ok (.iconst 0, 1))) (hv := by decide)) (
   sndN)))⟩
theorem kX2_forget_5 : CallAt mX2_forget 5 1 mJ7_fill_53178 2 := ⟨by decide +kernel, ⟨_, (by decide +kernel : decode cX2_forget 5 = .ok (.invokestatic 26, 3)), w_691, w_692⟩⟩

set_option maxRecDepth 20000 in
theorem GX2_markAlike : Good mX2_markAlike := ⟨by decide +kernel, List.mem_of_getElem? (i := 713) (by decide +kernel), inX2, ⟨by decide +kernel, by decide +kernel⟩, by decide, show ∀ q ∈ tX2_markAlike, Snd mX2_markAlike q.1 q.2 from
  sndC (sd_iconst (hd := (by decide +kernel : decode cX2_markAlike 0 = .ok (.iconst 0, 1))) (hv := by decide)) (
   sndC (sd_istore (hd := (by decide +kernel : decode cX2_markAlike 1 = .ok (.istore 4, 2)))) (
   sndC (sd_iconst (hd := (by decide +kernel : decode cX2_markAlike 3 = .ok (.iconst 0, 1))) (hv := by decide)) (
   sndC (sd_istore (hd := (by decide +kernel : decode cX2_markAlike 4 = .ok (.istore 5, 2)))) (
   sndC (sd_iload (hd := (by decide +kernel : decode cX2_markAlike 6 = .ok (.iload 5, 2)))) (
   sndC (sd_bipush (hd := (by decide +kernel : decode cX2_markAlike 8 = .ok (.bipush 6, 2))) (hv := by decide)) (
   sndC (sd_cmp_ge (ht := by decide) (hd := (by decide +kernel : decode cX2_markAlike 10 = .ok (.if_icmp .ge 42, 3)))) (
   sndC (sd_aload_n (hi := rfl) (hd := (by decide +kernel : decode cX2_markAlike 13 = .ok (.aload_n 2, 1)))) (
   sndC (sd_iload (hd := (by decide +kernel : decode cX2_markAlike 14 = .ok (.iload 5, 2)))) (
   sndC (sd_istore (hd := (by decide +kernel : decode cX2_markAlike 19 = .ok (.istore 6, 2)))) (
   sndC (sd_aload_n (hi := rfl) (hd := (by decide +kernel : decode cX2_markAlike 21 = .ok (.aload_n 0, 1)))) (
   sndC (sd_aload_n (hi := rfl) (hd := (by decide +kernel : decode cX2_markAlike 22 = .ok (.aload_n 1, 1)))) (
   sndC (sd_iload (hd := (by decide +kernel : decode cX2_markAlike 23 = .ok (.iload 5, 2)))) (
   sndC (sd_aload_n (hi := rfl) (hd := (by decide +kernel : decode cX2_markAlike 25 = .ok (.aload_n 1, 1)))) (
   sndC (sd_iload (hd := (by decide +kernel : decode cX2_markAlike 26 = .ok (.iload 5, 2)))) (
   sndC (sd_iload (hd := (by decide +kernel : decode cX2_markAlike 28 = .ok (.iload 4, 2)))) (
   sndC (sd_iload (hd := (by decide +kernel : decode cX2_markAlike 30 = .ok (.iload 6, 2)))) (
   sndC (sd_iload_n (hi := rfl) (hd := (by decide +kernel : decode cX2_markAlike 38 = .ok (.iload_n 3, 1)))) (
   sndC (sd_iload (hd := (by decide +kernel : decode cX2_markAlike 42 = .ok (.iload 6, 2)))) (
   sndC (sd_istore (hd := (by decide +kernel : decode cX2_markAlike 44 = .ok (.istore 4, 2)))) (
   sndC (sd_iinc (hv := by decide) (hd := (by decide +kernel : decode cX2_markAlike 46 = .ok (.iinc 5 1, 3)))) (
   sndC (sd_goto (ht := by decide) (hd := (by decide +kernel : decode cX2_markAlike 49 = .ok (.goto (-43), 3)))) (
   sndN))))))))))))))))))))))⟩
theorem kX2_markAlike_16 : CallAt mX2_markAlike 16 1 mX5_at 2 := ⟨by decide +kernel, ⟨_, (by decide +kernel : decode cX2_markAlike 16 = .ok (.invokestatic 32, 3)), w_714, w_391⟩⟩
theorem kX2_markAlike_32 : CallAt mX2_markAlike 32 1 mX5_place 3 := ⟨by decide +kernel, ⟨_, (by decide +kernel : decode cX2_markAlike 32 = .ok (.invokestatic 36, 3)), w_715, w_716⟩⟩
theorem kX2_markAlike_35 : CallAt mX2_markAlike 35 1 mX5_at 2 := ⟨by decide +kernel, ⟨_, (by decide +kernel : decode cX2_markAlike 35 = .ok (.invokestatic 32, 3)), w_714, w_391⟩⟩
theorem kX2_markAlike_39 : CallAt mX2_markAlike 39 0 mX2_markStep 4 := ⟨by decide +kernel, ⟨_, (by decide +kernel : decode cX2_markAlike 39 = .ok (.invokevirtual 40, 3)), w_718, w_719, w_720⟩⟩

set_option maxRecDepth 20000 in
theorem GX2_markStep : Good mX2_markStep := ⟨by decide +kernel, List.mem_of_getElem? (i := 721) (by decide +kernel), inX2, ⟨by decide +kernel, by decide +kernel⟩, by decide, show ∀ q ∈ tX2_markStep, Snd mX2_markStep q.1 q.2 from
  sndC (sd_iload_n (hi := rfl) (hd := (by decide +kernel : decode cX2_markStep 0 = .ok (.iload_n 2, 1)))) (
   sndC (sd_iconst (hd := (by decide +kernel : decode cX2_markStep 1 = .ok (.iconst 0, 1))) (hv := by decide)) (
   sndC (sd_iconst (hd := (by decide +kernel : decode cX2_markStep 2 = .ok (.iconst 0, 1))) (hv := by decide)) (
   sndC (sd_istore (hd := (by decide +kernel : decode cX2_markStep 6 = .ok (.istore 5, 2)))) (
   sndC (sd_iload (hd := (by decide +kernel : decode cX2_markStep 8 = .ok (.iload 5, 2)))) (
   sndC (sd_iload_n (hi := rfl) (hd := (by decide +kernel : decode cX2_markStep 10 = .ok (.iload_n 2, 1)))) (
   sndC (sd_iconst (hd := (by decide +kernel : decode cX2_markStep 11 = .ok (.iconst 1, 1))) (hv := by decide)) (
   sndC (sd_iadd (hd := (by decide +kernel : decode cX2_markStep 12 = .ok (.iadd, 1)))) (
   sndC (sd_iconst (hd := (by decide +kernel : decode cX2_markStep 13 = .ok (.iconst 0, 1))) (hv := by decide)) (
   sndC (sd_iconst (hd := (by decide +kernel : decode cX2_markStep 14 = .ok (.iconst 0, 1))) (hv := by decide)) (
   sndC (sd_cmp_ge (ht := by decide) (hd := (by decide +kernel : decode cX2_markStep 18 = .ok (.if_icmp .ge 40, 3)))) (
   sndC (sd_aload_n (hi := rfl) (hd := (by decide +kernel : decode cX2_markStep 21 = .ok (.aload_n 1, 1)))) (
   sndC (sd_iload (hd := (by decide +kernel : decode cX2_markStep 22 = .ok (.iload 5, 2)))) (
   sndC (sd_iload_n (hi := rfl) (hd := (by decide +kernel : decode cX2_markStep 27 = .ok (.iload_n 3, 1)))) (
   sndC (sd_cmp_ne (ht := by decide) (hd := (by decide +kernel : decode cX2_markStep 28 = .ok (.if_icmp .ne 24, 3)))) (
   sndC (sd_aload_n (hi := rfl) (hd := (by decide +kernel : decode cX2_markStep 31 = .ok (.aload_n 0, 1)))) (
   sndC (sd_get (C := RX2) (T := TX2) (N := 5) (hc := rfl) (hin0 := iX2) (hk := by decide) (hlink := w_217) (hd := (by decide +kernel : decode cX2_markStep 32 = .ok (.getfield 11, 3)))) (
   sndC (sd_iload (hd := (by decide +kernel : decode cX2_markStep 35 = .ok (.iload 5, 2)))) (
   sndC (sd_aload_n (hi := rfl) (hd := (by decide +kernel : decode cX2_markStep 37 = .ok (.aload_n 0, 1)))) (
   sndC (sd_get (C := RX2) (T := TX2) (N := 5) (hc := rfl) (hin0 := iX2) (hk := by decide) (hlink := w_217) (hd := (by decide +kernel : decode cX2_markStep 38 = .ok (.getfield 11, 3)))) (
   sndC (sd_iload (hd := (by decide +kernel : decode cX2_markStep 41 = .ok (.iload 5, 2)))) (
   sndC (sd_iload (hd := (by decide +kernel : decode cX2_markStep 46 = .ok (.iload 4, 2)))) (
   sndC (sd_ior (hd := (by decide +kernel : decode cX2_markStep 48 = .ok (.ior, 1)))) (
   sndC (sd_iinc (hv := by decide) (hd := (by decide +kernel : decode cX2_markStep 52 = .ok (.iinc 5 1, 3)))) (
   sndC (sd_goto (ht := by decide) (hd := (by decide +kernel : decode cX2_markStep 55 = .ok (.goto (-47), 3)))) (
   sndN)))))))))))))))))))))))))⟩
theorem kX2_markStep_3 : CallAt mX2_markStep 3 1 mX5_place 3 := ⟨by decide +kernel, ⟨_, (by decide +kernel : decode cX2_markStep 3 = .ok (.invokestatic 36, 3)), w_715, w_716⟩⟩
theorem kX2_markStep_15 : CallAt mX2_markStep 15 1 mX5_place 3 := ⟨by decide +kernel, ⟨_, (by decide +kernel : decode cX2_markStep 15 = .ok (.invokestatic 36, 3)), w_715, w_716⟩⟩
theorem kX2_markStep_24 : CallAt mX2_markStep 24 1 mX5_at 2 := ⟨by decide +kernel, ⟨_, (by decide +kernel : decode cX2_markStep 24 = .ok (.invokestatic 32, 3)), w_714, w_391⟩⟩
theorem kX2_markStep_43 : CallAt mX2_markStep 43 1 mX5_at 2 := ⟨by decide +kernel, ⟨_, (by decide +kernel : decode cX2_markStep 43 = .ok (.invokestatic 32, 3)), w_714, w_391⟩⟩
theorem kX2_markStep_49 : CallAt mX2_markStep 49 1 mX5_put 3 := ⟨by decide +kernel, ⟨_, (by decide +kernel : decode cX2_markStep 49 = .ok (.invokestatic 44, 3)), w_722, w_432⟩⟩

set_option maxRecDepth 20000 in
theorem GX2_spot : Good mX2_spot := ⟨by decide +kernel, List.mem_of_getElem? (i := 736) (by decide +kernel), inX2, ⟨by decide +kernel, by decide +kernel⟩, by decide, show ∀ q ∈ tX2_spot, Snd mX2_spot q.1 q.2 from
  sndC (sd_iload_n (hi := rfl) (hd := (by decide +kernel : decode cX2_spot 0 = .ok (.iload_n 0, 1)))) (
   sndC (sd_iconst (hd := (by decide +kernel : decode cX2_spot 1 = .ok (.iconst 4, 1))) (hv := by decide)) (
   sndC (sd_imul (hd := (by decide +kernel : decode cX2_spot 2 = .ok (.imul, 1)))) (
   sndC (sd_iload_n (hi := rfl) (hd := (by decide +kernel : decode cX2_spot 3 = .ok (.iload_n 1, 1)))) (
   sndC (sd_iadd (hd := (by decide +kernel : decode cX2_spot 4 = .ok (.iadd, 1)))) (
   sndN)))))⟩


set_option maxRecDepth 20000 in
theorem GX2_fits : Good mX2_fits := ⟨by decide +kernel, List.mem_of_getElem? (i := 744) (by decide +kernel), inX2, ⟨by decide +kernel, by decide +kernel⟩, by decide, show ∀ q ∈ tX2_fits, Snd mX2_fits q.1 q.2 from
  sndC (sd_aload_n (hi := rfl) (hd := (by decide +kernel : decode cX2_fits 0 = .ok (.aload_n 0, 1)))) (
   sndC (sd_get (C := RX2) (T := TX2) (N := 5) (hc := rfl) (hin0 := iX2) (hk := by decide) (hlink := w_217) (hd := (by decide +kernel : decode cX2_fits 1 = .ok (.getfield 11, 3)))) (
   sndC (sd_iload_n (hi := rfl) (hd := (by decide +kernel : decode cX2_fits 4 = .ok (.iload_n 2, 1)))) (
   sndC (sd_iload_n (hi := rfl) (hd := (by decide +kernel : decode cX2_fits 5 = .ok (.iload_n 3, 1)))) (
   sndC (sd_iload (hd := (by decide +kernel : decode cX2_fits 6 = .ok (.iload 4, 2)))) (
   sndC (sd_iload_n (hi := rfl) (hd := (by decide +kernel : decode cX2_fits 14 = .ok (.iload_n 1, 1)))) (
   sndC (sd_iand (hd := (by decide +kernel : decode cX2_fits 15 = .ok (.iand, 1)))) (
   sndC (sd_iload_n (hi := rfl) (hd := (by decide +kernel : decode cX2_fits 16 = .ok (.iload_n 1, 1)))) (
   sndC (sd_cmp_ne (ht := by decide) (hd := (by decide +kernel : decode cX2_fits 17 = .ok (.if_icmp .ne 7, 3)))) (
   sndC (sd_iconst (hd := (by decide +kernel : decode cX2_fits 20 = .ok (.iconst 1, 1))) (hv := by decide)) (
   sndC (sd_goto (ht := by decide) (hd := (by decide +kernel : decode cX2_fits 21 = .ok (.goto 4, 3)))) (
   sndC (sd_iconst (hd := (by decide +kernel : decode cX2_fits 24 = .ok (.iconst 0, 1))) (hv := by decide)) (
   sndN))))))))))))⟩
theorem kX2_fits_8 : CallAt mX2_fits 8 1 mX5_place 3 := ⟨by decide +kernel, ⟨_, (by decide +kernel : decode cX2_fits 8 = .ok (.invokestatic 36, 3)), w_715, w_716⟩⟩
theorem kX2_fits_11 : CallAt mX2_fits 11 1 mX5_at 2 := ⟨by decide +kernel, ⟨_, (by decide +kernel : decode cX2_fits 11 = .ok (.invokestatic 32, 3)), w_714, w_391⟩⟩

set_option maxRecDepth 20000 in
theorem GX2_waysBy : Good mX2_waysBy := ⟨by decide +kernel, List.mem_of_getElem? (i := 740) (by decide +kernel), inX2, ⟨by decide +kernel, by decide +kernel⟩, by decide, show ∀ q ∈ tX2_waysBy, Snd mX2_waysBy q.1 q.2 from
  sndC (sd_aload_n (hi := rfl) (hd := (by decide +kernel : decode cX2_waysBy 0 = .ok (.aload_n 0, 1)))) (
   sndC (sd_iload_n (hi := rfl) (hd := (by decide +kernel : decode cX2_waysBy 1 = .ok (.iload_n 1, 1)))) (
   sndC (sd_iload_n (hi := rfl) (hd := (by decide +kernel : decode cX2_waysBy 2 = .ok (.iload_n 2, 1)))) (
   sndC (sd_iload_n (hi := rfl) (hd := (by decide +kernel : decode cX2_waysBy 3 = .ok (.iload_n 3, 1)))) (
   sndC (sd_iload (hd := (by decide +kernel : decode cX2_waysBy 4 = .ok (.iload 4, 2)))) (
   sndC (sd_if_eq (ht := by decide) (hd := (by decide +kernel : decode cX2_waysBy 9 = .ok (.ifCond .eq 21, 3)))) (
   sndC (sd_aload_n (hi := rfl) (hd := (by decide +kernel : decode cX2_waysBy 12 = .ok (.aload_n 0, 1)))) (
   sndC (sd_get (C := RX2) (T := TX2) (N := 5) (hc := rfl) (hin0 := iX2) (hk := by decide) (hlink := w_218) (hd := (by decide +kernel : decode cX2_waysBy 13 = .ok (.getfield 17, 3)))) (
   sndC (sd_iload_n (hi := rfl) (hd := (by decide +kernel : decode cX2_waysBy 16 = .ok (.iload_n 2, 1)))) (
   sndC (sd_iconst (hd := (by decide +kernel : decode cX2_waysBy 17 = .ok (.iconst 1, 1))) (hv := by decide)) (
   sndC (sd_iadd (hd := (by decide +kernel : decode cX2_waysBy 18 = .ok (.iadd, 1)))) (
   sndC (sd_iload (hd := (by decide +kernel : decode cX2_waysBy 19 = .ok (.iload 4, 2)))) (
   sndC (sd_goto (ht := by decide) (hd := (by decide +kernel : decode cX2_waysBy 27 = .ok (.goto 4, 3)))) (
   sndC (sd_iconst (hd := (by decide +kernel : decode cX2_waysBy 30 = .ok (.iconst 0, 1))) (hv := by decide)) (
   sndN))))))))))))))⟩
theorem kX2_waysBy_6 : CallAt mX2_waysBy 6 0 mX2_fits 4 := ⟨by decide +kernel, ⟨_, (by decide +kernel : decode cX2_waysBy 6 = .ok (.invokevirtual 48, 3)), w_741, w_743, w_19⟩⟩
theorem kX2_waysBy_21 : CallAt mX2_waysBy 21 1 mX2_spot 2 := ⟨by decide +kernel, ⟨_, (by decide +kernel : decode cX2_waysBy 21 = .ok (.invokestatic 52, 3)), w_734, w_735⟩⟩
theorem kX2_waysBy_24 : CallAt mX2_waysBy 24 1 mX5_at 2 := ⟨by decide +kernel, ⟨_, (by decide +kernel : decode cX2_waysBy 24 = .ok (.invokestatic 32, 3)), w_714, w_391⟩⟩

set_option maxRecDepth 20000 in
theorem GX2_fitting : Good mX2_fitting := ⟨by decide +kernel, List.mem_of_getElem? (i := 730) (by decide +kernel), inX2, ⟨by decide +kernel, by decide +kernel⟩, by decide, show ∀ q ∈ tX2_fitting, Snd mX2_fitting q.1 q.2 from
  sndC (sd_aload_n (hi := rfl) (hd := (by decide +kernel : decode cX2_fitting 0 = .ok (.aload_n 0, 1)))) (
   sndC (sd_get (C := RX2) (T := TX2) (N := 5) (hc := rfl) (hin0 := iX2) (hk := by decide) (hlink := w_218) (hd := (by decide +kernel : decode cX2_fitting 1 = .ok (.getfield 17, 3)))) (
   sndC (sd_bipush (hd := (by decide +kernel : decode cX2_fitting 7 = .ok (.bipush 6, 2))) (hv := by decide)) (
   sndC (sd_iconst (hd := (by decide +kernel : decode cX2_fitting 9 = .ok (.iconst 0, 1))) (hv := by decide)) (
   sndC (sd_iconst (hd := (by decide +kernel : decode cX2_fitting 13 = .ok (.iconst 1, 1))) (hv := by decide)) (
   sndC (sd_isub (hd := (by decide +kernel : decode cX2_fitting 14 = .ok (.isub, 1)))) (
   sndC (sd_istore_n (hi := rfl) (hd := (by decide +kernel : decode cX2_fitting 15 = .ok (.istore_n 2, 1)))) (
   sndC (sd_iload_n (hi := rfl) (hd := (by decide +kernel : decode cX2_fitting 16 = .ok (.iload_n 2, 1)))) (
   sndC (sd_if_lt (ht := by decide) (hd := (by decide +kernel : decode cX2_fitting 17 = .ok (.ifCond .lt 51, 3)))) (
   sndC (sd_iconst (hd := (by decide +kernel : decode cX2_fitting 20 = .ok (.iconst 0, 1))) (hv := by decide)) (
   sndC (sd_istore_n (hi := rfl) (hd := (by decide +kernel : decode cX2_fitting 21 = .ok (.istore_n 3, 1)))) (
   sndC (sd_iconst (hd := (by decide +kernel : decode cX2_fitting 22 = .ok (.iconst 0, 1))) (hv := by decide)) (
   sndC (sd_istore (hd := (by decide +kernel : decode cX2_fitting 23 = .ok (.istore 4, 2)))) (
   sndC (sd_iload (hd := (by decide +kernel : decode cX2_fitting 25 = .ok (.iload 4, 2)))) (
   sndC (sd_iconst (hd := (by decide +kernel : decode cX2_fitting 27 = .ok (.iconst 4, 1))) (hv := by decide)) (
   sndC (sd_cmp_ge (ht := by decide) (hd := (by decide +kernel : decode cX2_fitting 28 = .ok (.if_icmp .ge 25, 3)))) (
   sndC (sd_iload_n (hi := rfl) (hd := (by decide +kernel : decode cX2_fitting 31 = .ok (.iload_n 3, 1)))) (
   sndC (sd_aload_n (hi := rfl) (hd := (by decide +kernel : decode cX2_fitting 32 = .ok (.aload_n 0, 1)))) (
   sndC (sd_iload_n (hi := rfl) (hd := (by decide +kernel : decode cX2_fitting 33 = .ok (.iload_n 1, 1)))) (
   sndC (sd_iload_n (hi := rfl) (hd := (by decide +kernel : decode cX2_fitting 34 = .ok (.iload_n 2, 1)))) (
   sndC (sd_iconst (hd := (by decide +kernel : decode cX2_fitting 35 = .ok (.iconst 4, 1))) (hv := by decide)) (
   sndC (sd_idiv (hd := (by decide +kernel : decode cX2_fitting 36 = .ok (.idiv, 1)))) (
   sndC (sd_iload_n (hi := rfl) (hd := (by decide +kernel : decode cX2_fitting 37 = .ok (.iload_n 2, 1)))) (
   sndC (sd_iconst (hd := (by decide +kernel : decode cX2_fitting 38 = .ok (.iconst 4, 1))) (hv := by decide)) (
   sndC (sd_irem (hd := (by decide +kernel : decode cX2_fitting 39 = .ok (.irem, 1)))) (
   sndC (sd_iload (hd := (by decide +kernel : decode cX2_fitting 40 = .ok (.iload 4, 2)))) (
   sndC (sd_iadd (hd := (by decide +kernel : decode cX2_fitting 45 = .ok (.iadd, 1)))) (
   sndC (sd_istore_n (hi := rfl) (hd := (by decide +kernel : decode cX2_fitting 46 = .ok (.istore_n 3, 1)))) (
   sndC (sd_iinc (hv := by decide) (hd := (by decide +kernel : decode cX2_fitting 47 = .ok (.iinc 4 1, 3)))) (
   sndC (sd_goto (ht := by decide) (hd := (by decide +kernel : decode cX2_fitting 50 = .ok (.goto (-25), 3)))) (
   sndC (sd_aload_n (hi := rfl) (hd := (by decide +kernel : decode cX2_fitting 53 = .ok (.aload_n 0, 1)))) (
   sndC (sd_get (C := RX2) (T := TX2) (N := 5) (hc := rfl) (hin0 := iX2) (hk := by decide) (hlink := w_218) (hd := (by decide +kernel : decode cX2_fitting 54 = .ok (.getfield 17, 3)))) (
   sndC (sd_iload_n (hi := rfl) (hd := (by decide +kernel : decode cX2_fitting 57 = .ok (.iload_n 2, 1)))) (
   sndC (sd_iload_n (hi := rfl) (hd := (by decide +kernel : decode cX2_fitting 58 = .ok (.iload_n 3, 1)))) (
   sndC (sd_iinc (hv := by decide) (hd := (by decide +kernel : decode cX2_fitting 62 = .ok (.iinc 2 (-1), 3)))) (
   sndC (sd_goto (ht := by decide) (hd := (by decide +kernel : decode cX2_fitting 65 = .ok (.goto (-49), 3)))) (
   sndC (sd_aload_n (hi := rfl) (hd := (by decide +kernel : decode cX2_fitting 68 = .ok (.aload_n 0, 1)))) (
   sndC (sd_get (C := RX2) (T := TX2) (N := 5) (hc := rfl) (hin0 := iX2) (hk := by decide) (hlink := w_218) (hd := (by decide +kernel : decode cX2_fitting 69 = .ok (.getfield 17, 3)))) (
   sndC (sd_iconst (hd := (by decide +kernel : decode cX2_fitting 72 = .ok (.iconst 0, 1))) (hv := by decide)) (
   sndC (sd_iconst (hd := (by decide +kernel : decode cX2_fitting 73 = .ok (.iconst 0, 1))) (hv := by decide)) (
   sndN))))))))))))))))))))))))))))))))))))))))⟩
theorem kX2_fitting_4 : CallAt mX2_fitting 4 1 mX2_endWithOnes 1 := ⟨by decide +kernel, ⟨_, (by decide +kernel : decode cX2_fitting 4 = .ok (.invokestatic 56, 3)), w_731, w_732⟩⟩
theorem kX2_fitting_10 : CallAt mX2_fitting 10 1 mX2_spot 2 := ⟨by decide +kernel, ⟨_, (by decide +kernel : decode cX2_fitting 10 = .ok (.invokestatic 52, 3)), w_734, w_735⟩⟩
theorem kX2_fitting_42 : CallAt mX2_fitting 42 0 mX2_waysBy 4 := ⟨by decide +kernel, ⟨_, (by decide +kernel : decode cX2_fitting 42 = .ok (.invokevirtual 60, 3)), w_737, w_739, w_18⟩⟩
theorem kX2_fitting_59 : CallAt mX2_fitting 59 1 mX5_put 3 := ⟨by decide +kernel, ⟨_, (by decide +kernel : decode cX2_fitting 59 = .ok (.invokestatic 44, 3)), w_722, w_432⟩⟩
theorem kX2_fitting_74 : CallAt mX2_fitting 74 1 mX2_spot 2 := ⟨by decide +kernel, ⟨_, (by decide +kernel : decode cX2_fitting 74 = .ok (.invokestatic 52, 3)), w_734, w_735⟩⟩
theorem kX2_fitting_77 : CallAt mX2_fitting 77 1 mX5_at 2 := ⟨by decide +kernel, ⟨_, (by decide +kernel : decode cX2_fitting 77 = .ok (.invokestatic 32, 3)), w_714, w_391⟩⟩

set_option maxRecDepth 20000 in
theorem GX2_endWithOnes : Good mX2_endWithOnes := ⟨by decide +kernel, List.mem_of_getElem? (i := 733) (by decide +kernel), inX2, ⟨by decide +kernel, by decide +kernel⟩, by decide, show ∀ q ∈ tX2_endWithOnes, Snd mX2_endWithOnes q.1 q.2 from
  sndC (sd_iconst (hd := (by decide +kernel : decode cX2_endWithOnes 0 = .ok (.iconst 0, 1))) (hv := by decide)) (
   sndC (sd_istore_n (hi := rfl) (hd := (by decide +kernel : decode cX2_endWithOnes 1 = .ok (.istore_n 1, 1)))) (
   sndC (sd_iload_n (hi := rfl) (hd := (by decide +kernel : decode cX2_endWithOnes 2 = .ok (.iload_n 1, 1)))) (
   sndC (sd_iconst (hd := (by decide +kernel : decode cX2_endWithOnes 3 = .ok (.iconst 4, 1))) (hv := by decide)) (
   sndC (sd_cmp_ge (ht := by decide) (hd := (by decide +kernel : decode cX2_endWithOnes 4 = .ok (.if_icmp .ge 20, 3)))) (
   sndC (sd_aload_n (hi := rfl) (hd := (by decide +kernel : decode cX2_endWithOnes 7 = .ok (.aload_n 0, 1)))) (
   sndC (sd_bipush (hd := (by decide +kernel : decode cX2_endWithOnes 8 = .ok (.bipush 6, 2))) (hv := by decide)) (
   sndC (sd_iload_n (hi := rfl) (hd := (by decide +kernel : decode cX2_endWithOnes 10 = .ok (.iload_n 1, 1)))) (
   sndC (sd_iconst (hd := (by decide +kernel : decode cX2_endWithOnes 14 = .ok (.iconst 1, 1))) (hv := by decide)) (
   sndC (sd_iinc (hv := by decide) (hd := (by decide +kernel : decode cX2_endWithOnes 18 = .ok (.iinc 1 1, 3)))) (
   sndC (sd_goto (ht := by decide) (hd := (by decide +kernel : decode cX2_endWithOnes 21 = .ok (.goto (-19), 3)))) (
   sndN)))))))))))⟩
theorem kX2_endWithOnes_11 : CallAt mX2_endWithOnes 11 1 mX2_spot 2 := ⟨by decide +kernel, ⟨_, (by decide +kernel : decode cX2_endWithOnes 11 = .ok (.invokestatic 52, 3)), w_734, w_735⟩⟩
theorem kX2_endWithOnes_15 : CallAt mX2_endWithOnes 15 1 mX5_put 3 := ⟨by decide +kernel, ⟨_, (by decide +kernel : decode cX2_endWithOnes 15 = .ok (.invokestatic 44, 3)), w_722, w_432⟩⟩

set_option maxRecDepth 20000 in
theorem GX2_doingsAt : Good mX2_doingsAt := ⟨by decide +kernel, List.mem_of_getElem? (i := 780) (by decide +kernel), inX2, ⟨by decide +kernel, by decide +kernel⟩, by decide, show ∀ q ∈ tX2_doingsAt, Snd mX2_doingsAt q.1 q.2 from
  sndC (sd_aload_n (hi := rfl) (hd := (by decide +kernel : decode cX2_doingsAt 0 = .ok (.aload_n 0, 1)))) (
   sndC (sd_iload_n (hi := rfl) (hd := (by decide +kernel : decode cX2_doingsAt 1 = .ok (.iload_n 1, 1)))) (
   sndC (sd_pop (hd := (by decide +kernel : decode cX2_doingsAt 5 = .ok (.pop, 1)))) (
   sndC (sd_iconst (hd := (by decide +kernel : decode cX2_doingsAt 6 = .ok (.iconst 1, 1))) (hv := by decide)) (
   sndC (sd_istore_n (hi := rfl) (hd := (by decide +kernel : decode cX2_doingsAt 7 = .ok (.istore_n 3, 1)))) (
   sndC (sd_iconst (hd := (by decide +kernel : decode cX2_doingsAt 8 = .ok (.iconst 0, 1))) (hv := by decide)) (
   sndC (sd_istore (hd := (by decide +kernel : decode cX2_doingsAt 9 = .ok (.istore 4, 2)))) (
   sndC (sd_iload (hd := (by decide +kernel : decode cX2_doingsAt 11 = .ok (.iload 4, 2)))) (
   sndC (sd_iload_n (hi := rfl) (hd := (by decide +kernel : decode cX2_doingsAt 13 = .ok (.iload_n 2, 1)))) (
   sndC (sd_cmp_gt (ht := by decide) (hd := (by decide +kernel : decode cX2_doingsAt 14 = .ok (.if_icmp .gt 25, 3)))) (
   sndC (sd_iload (hd := (by decide +kernel : decode cX2_doingsAt 17 = .ok (.iload 4, 2)))) (
   sndC (sd_bipush (hd := (by decide +kernel : decode cX2_doingsAt 19 = .ok (.bipush 6, 2))) (hv := by decide)) (
   sndC (sd_cmp_ge (ht := by decide) (hd := (by decide +kernel : decode cX2_doingsAt 21 = .ok (.if_icmp .ge 18, 3)))) (
   sndC (sd_aload_n (hi := rfl) (hd := (by decide +kernel : decode cX2_doingsAt 24 = .ok (.aload_n 0, 1)))) (
   sndC (sd_iload_n (hi := rfl) (hd := (by decide +kernel : decode cX2_doingsAt 25 = .ok (.iload_n 1, 1)))) (
   sndC (sd_iload (hd := (by decide +kernel : decode cX2_doingsAt 26 = .ok (.iload 4, 2)))) (
   sndC (sd_iload_n (hi := rfl) (hd := (by decide +kernel : decode cX2_doingsAt 28 = .ok (.iload_n 3, 1)))) (
   sndC (sd_istore_n (hi := rfl) (hd := (by decide +kernel : decode cX2_doingsAt 32 = .ok (.istore_n 3, 1)))) (
   sndC (sd_iinc (hv := by decide) (hd := (by decide +kernel : decode cX2_doingsAt 33 = .ok (.iinc 4 1, 3)))) (
   sndC (sd_goto (ht := by decide) (hd := (by decide +kernel : decode cX2_doingsAt 36 = .ok (.goto (-25), 3)))) (
   sndC (sd_iload_n (hi := rfl) (hd := (by decide +kernel : decode cX2_doingsAt 39 = .ok (.iload_n 3, 1)))) (
   sndN)))))))))))))))))))))⟩
theorem kX2_doingsAt_2 : CallAt mX2_doingsAt 2 0 mX2_fitting 1 := ⟨by decide +kernel, ⟨_, (by decide +kernel : decode cX2_doingsAt 2 = .ok (.invokevirtual 64, 3)), w_749, w_728, w_729⟩⟩
theorem kX2_doingsAt_29 : CallAt mX2_doingsAt 29 0 mX2_doingsBehind 3 := ⟨by decide +kernel, ⟨_, (by decide +kernel : decode cX2_doingsAt 29 = .ok (.invokevirtual 68, 3)), w_750, w_752, w_20⟩⟩

set_option maxRecDepth 20000 in
theorem GX2_sureSteps : Good mX2_sureSteps := ⟨by decide +kernel, List.mem_of_getElem? (i := 748) (by decide +kernel), inX2, ⟨by decide +kernel, by decide +kernel⟩, by decide, show ∀ q ∈ tX2_sureSteps, Snd mX2_sureSteps q.1 q.2 from
  sndC (sd_aload_n (hi := rfl) (hd := (by decide +kernel : decode cX2_sureSteps 0 = .ok (.aload_n 0, 1)))) (
   sndC (sd_iload_n (hi := rfl) (hd := (by decide +kernel : decode cX2_sureSteps 1 = .ok (.iload_n 1, 1)))) (
   sndC (sd_pop (hd := (by decide +kernel : decode cX2_sureSteps 5 = .ok (.pop, 1)))) (
   sndC (sd_iconst (hd := (by decide +kernel : decode cX2_sureSteps 6 = .ok (.iconst 0, 1))) (hv := by decide)) (
   sndC (sd_istore_n (hi := rfl) (hd := (by decide +kernel : decode cX2_sureSteps 7 = .ok (.istore_n 2, 1)))) (
   sndC (sd_iconst (hd := (by decide +kernel : decode cX2_sureSteps 8 = .ok (.iconst 1, 1))) (hv := by decide)) (
   sndC (sd_istore_n (hi := rfl) (hd := (by decide +kernel : decode cX2_sureSteps 9 = .ok (.istore_n 3, 1)))) (
   sndC (sd_iconst (hd := (by decide +kernel : decode cX2_sureSteps 10 = .ok (.iconst 0, 1))) (hv := by decide)) (
   sndC (sd_istore (hd := (by decide +kernel : decode cX2_sureSteps 11 = .ok (.istore 4, 2)))) (
   sndC (sd_iload (hd := (by decide +kernel : decode cX2_sureSteps 13 = .ok (.iload 4, 2)))) (
   sndC (sd_bipush (hd := (by decide +kernel : decode cX2_sureSteps 15 = .ok (.bipush 6, 2))) (hv := by decide)) (
   sndC (sd_cmp_ge (ht := by decide) (hd := (by decide +kernel : decode cX2_sureSteps 17 = .ok (.if_icmp .ge 33, 3)))) (
   sndC (sd_aload_n (hi := rfl) (hd := (by decide +kernel : decode cX2_sureSteps 20 = .ok (.aload_n 0, 1)))) (
   sndC (sd_iload_n (hi := rfl) (hd := (by decide +kernel : decode cX2_sureSteps 21 = .ok (.iload_n 1, 1)))) (
   sndC (sd_iload (hd := (by decide +kernel : decode cX2_sureSteps 22 = .ok (.iload 4, 2)))) (
   sndC (sd_iload_n (hi := rfl) (hd := (by decide +kernel : decode cX2_sureSteps 24 = .ok (.iload_n 3, 1)))) (
   sndC (sd_istore_n (hi := rfl) (hd := (by decide +kernel : decode cX2_sureSteps 28 = .ok (.istore_n 3, 1)))) (
   sndC (sd_iload_n (hi := rfl) (hd := (by decide +kernel : decode cX2_sureSteps 29 = .ok (.iload_n 3, 1)))) (
   sndC (sd_iconst (hd := (by decide +kernel : decode cX2_sureSteps 33 = .ok (.iconst 1, 1))) (hv := by decide)) (
   sndC (sd_cmp_ne (ht := by decide) (hd := (by decide +kernel : decode cX2_sureSteps 34 = .ok (.if_icmp .ne 10, 3)))) (
   sndC (sd_iload_n (hi := rfl) (hd := (by decide +kernel : decode cX2_sureSteps 37 = .ok (.iload_n 2, 1)))) (
   sndC (sd_iconst (hd := (by decide +kernel : decode cX2_sureSteps 38 = .ok (.iconst 1, 1))) (hv := by decide)) (
   sndC (sd_iload (hd := (by decide +kernel : decode cX2_sureSteps 39 = .ok (.iload 4, 2)))) (
   sndC (sd_ishl (hd := (by decide +kernel : decode cX2_sureSteps 41 = .ok (.ishl, 1)))) (
   sndC (sd_ior (hd := (by decide +kernel : decode cX2_sureSteps 42 = .ok (.ior, 1)))) (
   sndC (sd_istore_n (hi := rfl) (hd := (by decide +kernel : decode cX2_sureSteps 43 = .ok (.istore_n 2, 1)))) (
   sndC (sd_iinc (hv := by decide) (hd := (by decide +kernel : decode cX2_sureSteps 44 = .ok (.iinc 4 1, 3)))) (
   sndC (sd_goto (ht := by decide) (hd := (by decide +kernel : decode cX2_sureSteps 47 = .ok (.goto (-34), 3)))) (
   sndC (sd_iload_n (hi := rfl) (hd := (by decide +kernel : decode cX2_sureSteps 50 = .ok (.iload_n 2, 1)))) (
   sndN)))))))))))))))))))))))))))))⟩
theorem kX2_sureSteps_2 : CallAt mX2_sureSteps 2 0 mX2_fitting 1 := ⟨by decide +kernel, ⟨_, (by decide +kernel : decode cX2_sureSteps 2 = .ok (.invokevirtual 64, 3)), w_749, w_728, w_729⟩⟩
theorem kX2_sureSteps_25 : CallAt mX2_sureSteps 25 0 mX2_doingsBehind 3 := ⟨by decide +kernel, ⟨_, (by decide +kernel : decode cX2_sureSteps 25 = .ok (.invokevirtual 68, 3)), w_750, w_752, w_20⟩⟩
theorem kX2_sureSteps_30 : CallAt mX2_sureSteps 30 1 mJ6_bitCount_0f7a4 1 := ⟨by decide +kernel, ⟨_, (by decide +kernel : decode cX2_sureSteps 30 = .ok (.invokestatic 71, 3)), w_754, w_617⟩⟩

set_option maxRecDepth 20000 in
theorem GX2_doingsBehind : Good mX2_doingsBehind := ⟨by decide +kernel, List.mem_of_getElem? (i := 753) (by decide +kernel), inX2, ⟨by decide +kernel, by decide +kernel⟩, by decide, show ∀ q ∈ tX2_doingsBehind, Snd mX2_doingsBehind q.1 q.2 from
  sndC (sd_iconst (hd := (by decide +kernel : decode cX2_doingsBehind 0 = .ok (.iconst 0, 1))) (hv := by decide)) (
   sndC (sd_istore (hd := (by decide +kernel : decode cX2_doingsBehind 1 = .ok (.istore 4, 2)))) (
   sndC (sd_iconst (hd := (by decide +kernel : decode cX2_doingsBehind 3 = .ok (.iconst 0, 1))) (hv := by decide)) (
   sndC (sd_istore (hd := (by decide +kernel : decode cX2_doingsBehind 4 = .ok (.istore 5, 2)))) (
   sndC (sd_iload (hd := (by decide +kernel : decode cX2_doingsBehind 6 = .ok (.iload 5, 2)))) (
   sndC (sd_bipush (hd := (by decide +kernel : decode cX2_doingsBehind 8 = .ok (.bipush 16, 2))) (hv := by decide)) (
   sndC (sd_cmp_ge (ht := by decide) (hd := (by decide +kernel : decode cX2_doingsBehind 10 = .ok (.if_icmp .ge 53, 3)))) (
   sndC (sd_iload (hd := (by decide +kernel : decode cX2_doingsBehind 13 = .ok (.iload 5, 2)))) (
   sndC (sd_iconst (hd := (by decide +kernel : decode cX2_doingsBehind 15 = .ok (.iconst 4, 1))) (hv := by decide)) (
   sndC (sd_idiv (hd := (by decide +kernel : decode cX2_doingsBehind 16 = .ok (.idiv, 1)))) (
   sndC (sd_istore (hd := (by decide +kernel : decode cX2_doingsBehind 17 = .ok (.istore 6, 2)))) (
   sndC (sd_iload (hd := (by decide +kernel : decode cX2_doingsBehind 19 = .ok (.iload 5, 2)))) (
   sndC (sd_iconst (hd := (by decide +kernel : decode cX2_doingsBehind 21 = .ok (.iconst 4, 1))) (hv := by decide)) (
   sndC (sd_irem (hd := (by decide +kernel : decode cX2_doingsBehind 22 = .ok (.irem, 1)))) (
   sndC (sd_istore (hd := (by decide +kernel : decode cX2_doingsBehind 23 = .ok (.istore 7, 2)))) (
   sndC (sd_iload_n (hi := rfl) (hd := (by decide +kernel : decode cX2_doingsBehind 25 = .ok (.iload_n 3, 1)))) (
   sndC (sd_iload (hd := (by decide +kernel : decode cX2_doingsBehind 26 = .ok (.iload 6, 2)))) (
   sndC (sd_ishr (hd := (by decide +kernel : decode cX2_doingsBehind 28 = .ok (.ishr, 1)))) (
   sndC (sd_iconst (hd := (by decide +kernel : decode cX2_doingsBehind 29 = .ok (.iconst 1, 1))) (hv := by decide)) (
   sndC (sd_iand (hd := (by decide +kernel : decode cX2_doingsBehind 30 = .ok (.iand, 1)))) (
   sndC (sd_iconst (hd := (by decide +kernel : decode cX2_doingsBehind 31 = .ok (.iconst 1, 1))) (hv := by decide)) (
   sndC (sd_cmp_ne (ht := by decide) (hd := (by decide +kernel : decode cX2_doingsBehind 32 = .ok (.if_icmp .ne 25, 3)))) (
   sndC (sd_aload_n (hi := rfl) (hd := (by decide +kernel : decode cX2_doingsBehind 35 = .ok (.aload_n 0, 1)))) (
   sndC (sd_iload_n (hi := rfl) (hd := (by decide +kernel : decode cX2_doingsBehind 36 = .ok (.iload_n 1, 1)))) (
   sndC (sd_iload_n (hi := rfl) (hd := (by decide +kernel : decode cX2_doingsBehind 37 = .ok (.iload_n 2, 1)))) (
   sndC (sd_iload (hd := (by decide +kernel : decode cX2_doingsBehind 38 = .ok (.iload 6, 2)))) (
   sndC (sd_iload (hd := (by decide +kernel : decode cX2_doingsBehind 40 = .ok (.iload 7, 2)))) (
   sndC (sd_if_le (ht := by decide) (hd := (by decide +kernel : decode cX2_doingsBehind 45 = .ok (.ifCond .le 12, 3)))) (
   sndC (sd_iload (hd := (by decide +kernel : decode cX2_doingsBehind 48 = .ok (.iload 4, 2)))) (
   sndC (sd_iconst (hd := (by decide +kernel : decode cX2_doingsBehind 50 = .ok (.iconst 1, 1))) (hv := by decide)) (
   sndC (sd_iload (hd := (by decide +kernel : decode cX2_doingsBehind 51 = .ok (.iload 7, 2)))) (
   sndC (sd_ishl (hd := (by decide +kernel : decode cX2_doingsBehind 53 = .ok (.ishl, 1)))) (
   sndC (sd_ior (hd := (by decide +kernel : decode cX2_doingsBehind 54 = .ok (.ior, 1)))) (
   sndC (sd_istore (hd := (by decide +kernel : decode cX2_doingsBehind 55 = .ok (.istore 4, 2)))) (
   sndC (sd_iinc (hv := by decide) (hd := (by decide +kernel : decode cX2_doingsBehind 57 = .ok (.iinc 5 1, 3)))) (
   sndC (sd_goto (ht := by decide) (hd := (by decide +kernel : decode cX2_doingsBehind 60 = .ok (.goto (-54), 3)))) (
   sndC (sd_iload (hd := (by decide +kernel : decode cX2_doingsBehind 63 = .ok (.iload 4, 2)))) (
   sndN)))))))))))))))))))))))))))))))))))))⟩
theorem kX2_doingsBehind_42 : CallAt mX2_doingsBehind 42 0 mX2_waysBy 4 := ⟨by decide +kernel, ⟨_, (by decide +kernel : decode cX2_doingsBehind 42 = .ok (.invokevirtual 60, 3)), w_737, w_739, w_18⟩⟩

set_option maxRecDepth 20000 in
theorem GX2_digitsOf : Good mX2_digitsOf := ⟨by decide +kernel, List.mem_of_getElem? (i := 788) (by decide +kernel), inX2, ⟨by decide +kernel, by decide +kernel⟩, by decide, show ∀ q ∈ tX2_digitsOf, Snd mX2_digitsOf q.1 q.2 from
  sndC (sd_iload_n (hi := rfl) (hd := (by decide +kernel : decode cX2_digitsOf 0 = .ok (.iload_n 2, 1)))) (
   sndC (sd_if_lt (ht := by decide) (hd := (by decide +kernel : decode cX2_digitsOf 1 = .ok (.ifCond .lt 12, 3)))) (
   sndC (sd_iload_n (hi := rfl) (hd := (by decide +kernel : decode cX2_digitsOf 4 = .ok (.iload_n 2, 1)))) (
   sndC (sd_aload_n (hi := rfl) (hd := (by decide +kernel : decode cX2_digitsOf 5 = .ok (.aload_n 0, 1)))) (
   sndC (sd_iload_n (hi := rfl) (hd := (by decide +kernel : decode cX2_digitsOf 6 = .ok (.iload_n 1, 1)))) (
   sndC (sd_cmp_lt (ht := by decide) (hd := (by decide +kernel : decode cX2_digitsOf 10 = .ok (.if_icmp .lt 5, 3)))) (
   sndC (sd_iconst (hd := (by decide +kernel : decode cX2_digitsOf 13 = .ok (.iconst (-1), 1))) (hv := by decide)) (
   sndC (sd_iload_n (hi := rfl) (hd := (by decide +kernel : decode cX2_digitsOf 15 = .ok (.iload_n 2, 1)))) (
   sndC (sd_istore_n (hi := rfl) (hd := (by decide +kernel : decode cX2_digitsOf 16 = .ok (.istore_n 3, 1)))) (
   sndC (sd_iconst (hd := (by decide +kernel : decode cX2_digitsOf 17 = .ok (.iconst 0, 1))) (hv := by decide)) (
   sndC (sd_istore (hd := (by decide +kernel : decode cX2_digitsOf 18 = .ok (.istore 4, 2)))) (
   sndC (sd_iconst (hd := (by decide +kernel : decode cX2_digitsOf 20 = .ok (.iconst 0, 1))) (hv := by decide)) (
   sndC (sd_istore (hd := (by decide +kernel : decode cX2_digitsOf 21 = .ok (.istore 5, 2)))) (
   sndC (sd_iconst (hd := (by decide +kernel : decode cX2_digitsOf 23 = .ok (.iconst 0, 1))) (hv := by decide)) (
   sndC (sd_istore (hd := (by decide +kernel : decode cX2_digitsOf 24 = .ok (.istore 6, 2)))) (
   sndC (sd_iload (hd := (by decide +kernel : decode cX2_digitsOf 26 = .ok (.iload 6, 2)))) (
   sndC (sd_bipush (hd := (by decide +kernel : decode cX2_digitsOf 28 = .ok (.bipush 6, 2))) (hv := by decide)) (
   sndC (sd_cmp_ge (ht := by decide) (hd := (by decide +kernel : decode cX2_digitsOf 30 = .ok (.if_icmp .ge 77, 3)))) (
   sndC (sd_iconst (hd := (by decide +kernel : decode cX2_digitsOf 33 = .ok (.iconst 0, 1))) (hv := by decide)) (
   sndC (sd_istore (hd := (by decide +kernel : decode cX2_digitsOf 34 = .ok (.istore 7, 2)))) (
   sndC (sd_aload_n (hi := rfl) (hd := (by decide +kernel : decode cX2_digitsOf 36 = .ok (.aload_n 0, 1)))) (
   sndC (sd_iload_n (hi := rfl) (hd := (by decide +kernel : decode cX2_digitsOf 37 = .ok (.iload_n 1, 1)))) (
   sndC (sd_iload (hd := (by decide +kernel : decode cX2_digitsOf 38 = .ok (.iload 6, 2)))) (
   sndC (sd_iload (hd := (by decide +kernel : decode cX2_digitsOf 40 = .ok (.iload 5, 2)))) (
   sndC (sd_iload (hd := (by decide +kernel : decode cX2_digitsOf 42 = .ok (.iload 7, 2)))) (
   sndC (sd_istore (hd := (by decide +kernel : decode cX2_digitsOf 47 = .ok (.istore 8, 2)))) (
   sndC (sd_iload (hd := (by decide +kernel : decode cX2_digitsOf 49 = .ok (.iload 7, 2)))) (
   sndC (sd_iconst (hd := (by decide +kernel : decode cX2_digitsOf 51 = .ok (.iconst 3, 1))) (hv := by decide)) (
   sndC (sd_cmp_ge (ht := by decide) (hd := (by decide +kernel : decode cX2_digitsOf 52 = .ok (.if_icmp .ge 33, 3)))) (
   sndC (sd_iload_n (hi := rfl) (hd := (by decide +kernel : decode cX2_digitsOf 55 = .ok (.iload_n 3, 1)))) (
   sndC (sd_iload (hd := (by decide +kernel : decode cX2_digitsOf 56 = .ok (.iload 8, 2)))) (
   sndC (sd_cmp_lt (ht := by decide) (hd := (by decide +kernel : decode cX2_digitsOf 58 = .ok (.if_icmp .lt 27, 3)))) (
   sndC (sd_iload_n (hi := rfl) (hd := (by decide +kernel : decode cX2_digitsOf 61 = .ok (.iload_n 3, 1)))) (
   sndC (sd_iload (hd := (by decide +kernel : decode cX2_digitsOf 62 = .ok (.iload 8, 2)))) (
   sndC (sd_isub (hd := (by decide +kernel : decode cX2_digitsOf 64 = .ok (.isub, 1)))) (
   sndC (sd_istore_n (hi := rfl) (hd := (by decide +kernel : decode cX2_digitsOf 65 = .ok (.istore_n 3, 1)))) (
   sndC (sd_iinc (hv := by decide) (hd := (by decide +kernel : decode cX2_digitsOf 66 = .ok (.iinc 7 1, 3)))) (
   sndC (sd_aload_n (hi := rfl) (hd := (by decide +kernel : decode cX2_digitsOf 69 = .ok (.aload_n 0, 1)))) (
   sndC (sd_iload_n (hi := rfl) (hd := (by decide +kernel : decode cX2_digitsOf 70 = .ok (.iload_n 1, 1)))) (
   sndC (sd_iload (hd := (by decide +kernel : decode cX2_digitsOf 71 = .ok (.iload 6, 2)))) (
   sndC (sd_iload (hd := (by decide +kernel : decode cX2_digitsOf 73 = .ok (.iload 5, 2)))) (
   sndC (sd_iload (hd := (by decide +kernel : decode cX2_digitsOf 75 = .ok (.iload 7, 2)))) (
   sndC (sd_istore (hd := (by decide +kernel : decode cX2_digitsOf 80 = .ok (.istore 8, 2)))) (
   sndC (sd_goto (ht := by decide) (hd := (by decide +kernel : decode cX2_digitsOf 82 = .ok (.goto (-33), 3)))) (
   sndC (sd_iload (hd := (by decide +kernel : decode cX2_digitsOf 85 = .ok (.iload 4, 2)))) (
   sndC (sd_bipush (hd := (by decide +kernel : decode cX2_digitsOf 87 = .ok (.bipush 10, 2))) (hv := by decide)) (
   sndC (sd_imul (hd := (by decide +kernel : decode cX2_digitsOf 89 = .ok (.imul, 1)))) (
   sndC (sd_iload (hd := (by decide +kernel : decode cX2_digitsOf 90 = .ok (.iload 7, 2)))) (
   sndC (sd_iadd (hd := (by decide +kernel : decode cX2_digitsOf 92 = .ok (.iadd, 1)))) (
   sndC (sd_iconst (hd := (by decide +kernel : decode cX2_digitsOf 93 = .ok (.iconst 1, 1))) (hv := by decide)) (
   sndC (sd_iadd (hd := (by decide +kernel : decode cX2_digitsOf 94 = .ok (.iadd, 1)))) (
   sndC (sd_istore (hd := (by decide +kernel : decode cX2_digitsOf 95 = .ok (.istore 4, 2)))) (
   sndC (sd_iload (hd := (by decide +kernel : decode cX2_digitsOf 97 = .ok (.iload 7, 2)))) (
   sndC (sd_istore (hd := (by decide +kernel : decode cX2_digitsOf 99 = .ok (.istore 5, 2)))) (
   sndC (sd_iinc (hv := by decide) (hd := (by decide +kernel : decode cX2_digitsOf 101 = .ok (.iinc 6 1, 3)))) (
   sndC (sd_goto (ht := by decide) (hd := (by decide +kernel : decode cX2_digitsOf 104 = .ok (.goto (-78), 3)))) (
   sndC (sd_iload (hd := (by decide +kernel : decode cX2_digitsOf 107 = .ok (.iload 4, 2)))) (
   sndN)))))))))))))))))))))))))))))))))))))))))))))))))))))))))⟩
theorem kX2_digitsOf_7 : CallAt mX2_digitsOf 7 0 mX2_fitting 1 := ⟨by decide +kernel, ⟨_, (by decide +kernel : decode cX2_digitsOf 7 = .ok (.invokevirtual 64, 3)), w_749, w_728, w_729⟩⟩
theorem kX2_digitsOf_44 : CallAt mX2_digitsOf 44 0 mX2_waysBy 4 := ⟨by decide +kernel, ⟨_, (by decide +kernel : decode cX2_digitsOf 44 = .ok (.invokevirtual 60, 3)), w_737, w_739, w_18⟩⟩
theorem kX2_digitsOf_77 : CallAt mX2_digitsOf 77 0 mX2_waysBy 4 := ⟨by decide +kernel, ⟨_, (by decide +kernel : decode cX2_digitsOf 77 = .ok (.invokevirtual 60, 3)), w_737, w_739, w_18⟩⟩

set_option maxRecDepth 20000 in
theorem GX2_mostWeight : Good mX2_mostWeight := ⟨by decide +kernel, List.mem_of_getElem? (i := 803) (by decide +kernel), inX2, ⟨by decide +kernel, by decide +kernel⟩, by decide, show ∀ q ∈ tX2_mostWeight, Snd mX2_mostWeight q.1 q.2 from
  sndC (sd_aload_n (hi := rfl) (hd := (by decide +kernel : decode cX2_mostWeight 0 = .ok (.aload_n 0, 1)))) (
   sndC (sd_iload_n (hi := rfl) (hd := (by decide +kernel : decode cX2_mostWeight 1 = .ok (.iload_n 1, 1)))) (
   sndC (sd_pop (hd := (by decide +kernel : decode cX2_mostWeight 5 = .ok (.pop, 1)))) (
   sndC (sd_aload_n (hi := rfl) (hd := (by decide +kernel : decode cX2_mostWeight 6 = .ok (.aload_n 0, 1)))) (
   sndC (sd_get (C := RX2) (T := TX2) (N := 5) (hc := rfl) (hin0 := iX2) (hk := by decide) (hlink := w_219) (hd := (by decide +kernel : decode cX2_mostWeight 7 = .ok (.getfield 20, 3)))) (
   sndC (sd_iconst (hd := (by decide +kernel : decode cX2_mostWeight 10 = .ok (.iconst 0, 1))) (hv := by decide)) (
   sndC (sd_bipush (hd := (by decide +kernel : decode cX2_mostWeight 14 = .ok (.bipush 6, 2))) (hv := by decide)) (
   sndC (sd_iconst (hd := (by decide +kernel : decode cX2_mostWeight 16 = .ok (.iconst 0, 1))) (hv := by decide)) (
   sndC (sd_iconst (hd := (by decide +kernel : decode cX2_mostWeight 20 = .ok (.iconst 1, 1))) (hv := by decide)) (
   sndC (sd_isub (hd := (by decide +kernel : decode cX2_mostWeight 21 = .ok (.isub, 1)))) (
   sndC (sd_istore_n (hi := rfl) (hd := (by decide +kernel : decode cX2_mostWeight 22 = .ok (.istore_n 3, 1)))) (
   sndC (sd_iload_n (hi := rfl) (hd := (by decide +kernel : decode cX2_mostWeight 23 = .ok (.iload_n 3, 1)))) (
   sndC (sd_if_lt (ht := by decide) (hd := (by decide +kernel : decode cX2_mostWeight 24 = .ok (.ifCond .lt 54, 3)))) (
   sndC (sd_aload_n (hi := rfl) (hd := (by decide +kernel : decode cX2_mostWeight 27 = .ok (.aload_n 0, 1)))) (
   sndC (sd_iload_n (hi := rfl) (hd := (by decide +kernel : decode cX2_mostWeight 28 = .ok (.iload_n 1, 1)))) (
   sndC (sd_iload_n (hi := rfl) (hd := (by decide +kernel : decode cX2_mostWeight 29 = .ok (.iload_n 3, 1)))) (
   sndC (sd_iconst (hd := (by decide +kernel : decode cX2_mostWeight 30 = .ok (.iconst 4, 1))) (hv := by decide)) (
   sndC (sd_idiv (hd := (by decide +kernel : decode cX2_mostWeight 31 = .ok (.idiv, 1)))) (
   sndC (sd_iload_n (hi := rfl) (hd := (by decide +kernel : decode cX2_mostWeight 32 = .ok (.iload_n 3, 1)))) (
   sndC (sd_iconst (hd := (by decide +kernel : decode cX2_mostWeight 33 = .ok (.iconst 4, 1))) (hv := by decide)) (
   sndC (sd_irem (hd := (by decide +kernel : decode cX2_mostWeight 34 = .ok (.irem, 1)))) (
   sndC (sd_aload_n (hi := rfl) (hd := (by decide +kernel : decode cX2_mostWeight 35 = .ok (.aload_n 2, 1)))) (
   sndC (sd_istore (hd := (by decide +kernel : decode cX2_mostWeight 39 = .ok (.istore 4, 2)))) (
   sndC (sd_aload_n (hi := rfl) (hd := (by decide +kernel : decode cX2_mostWeight 41 = .ok (.aload_n 0, 1)))) (
   sndC (sd_get (C := RX2) (T := TX2) (N := 5) (hc := rfl) (hin0 := iX2) (hk := by decide) (hlink := w_219) (hd := (by decide +kernel : decode cX2_mostWeight 42 = .ok (.getfield 20, 3)))) (
   sndC (sd_iload_n (hi := rfl) (hd := (by decide +kernel : decode cX2_mostWeight 45 = .ok (.iload_n 3, 1)))) (
   sndC (sd_iload (hd := (by decide +kernel : decode cX2_mostWeight 46 = .ok (.iload 4, 2)))) (
   sndC (sd_iconst (hd := (by decide +kernel : decode cX2_mostWeight 48 = .ok (.iconst (-1), 1))) (hv := by decide)) (
   sndC (sd_cmp_ne (ht := by decide) (hd := (by decide +kernel : decode cX2_mostWeight 49 = .ok (.if_icmp .ne 7, 3)))) (
   sndC (sd_iconst (hd := (by decide +kernel : decode cX2_mostWeight 52 = .ok (.iconst 0, 1))) (hv := by decide)) (
   sndC (sd_goto (ht := by decide) (hd := (by decide +kernel : decode cX2_mostWeight 53 = .ok (.goto 16, 3)))) (
   sndC (sd_aload_n (hi := rfl) (hd := (by decide +kernel : decode cX2_mostWeight 56 = .ok (.aload_n 0, 1)))) (
   sndC (sd_iload_n (hi := rfl) (hd := (by decide +kernel : decode cX2_mostWeight 57 = .ok (.iload_n 3, 1)))) (
   sndC (sd_iconst (hd := (by decide +kernel : decode cX2_mostWeight 58 = .ok (.iconst 4, 1))) (hv := by decide)) (
   sndC (sd_idiv (hd := (by decide +kernel : decode cX2_mostWeight 59 = .ok (.idiv, 1)))) (
   sndC (sd_iload_n (hi := rfl) (hd := (by decide +kernel : decode cX2_mostWeight 60 = .ok (.iload_n 3, 1)))) (
   sndC (sd_iconst (hd := (by decide +kernel : decode cX2_mostWeight 61 = .ok (.iconst 4, 1))) (hv := by decide)) (
   sndC (sd_irem (hd := (by decide +kernel : decode cX2_mostWeight 62 = .ok (.irem, 1)))) (
   sndC (sd_iload (hd := (by decide +kernel : decode cX2_mostWeight 63 = .ok (.iload 4, 2)))) (
   sndC (sd_aload_n (hi := rfl) (hd := (by decide +kernel : decode cX2_mostWeight 65 = .ok (.aload_n 2, 1)))) (
   sndC (sd_iinc (hv := by decide) (hd := (by decide +kernel : decode cX2_mostWeight 72 = .ok (.iinc 3 (-1), 3)))) (
   sndC (sd_goto (ht := by decide) (hd := (by decide +kernel : decode cX2_mostWeight 75 = .ok (.goto (-52), 3)))) (
   sndC (sd_aload_n (hi := rfl) (hd := (by decide +kernel : decode cX2_mostWeight 78 = .ok (.aload_n 0, 1)))) (
   sndC (sd_get (C := RX2) (T := TX2) (N := 5) (hc := rfl) (hin0 := iX2) (hk := by decide) (hlink := w_219) (hd := (by decide +kernel : decode cX2_mostWeight 79 = .ok (.getfield 20, 3)))) (
   sndC (sd_iconst (hd := (by decide +kernel : decode cX2_mostWeight 82 = .ok (.iconst 0, 1))) (hv := by decide)) (
   sndC (sd_iconst (hd := (by decide +kernel : decode cX2_mostWeight 83 = .ok (.iconst 0, 1))) (hv := by decide)) (
   sndN))))))))))))))))))))))))))))))))))))))))))))))⟩
theorem kX2_mostWeight_2 : CallAt mX2_mostWeight 2 0 mX2_fitting 1 := ⟨by decide +kernel, ⟨_, (by decide +kernel : decode cX2_mostWeight 2 = .ok (.invokevirtual 64, 3)), w_749, w_728, w_729⟩⟩
theorem kX2_mostWeight_11 : CallAt mX2_mostWeight 11 1 mJ7_fill_53178 2 := ⟨by decide +kernel, ⟨_, (by decide +kernel : decode cX2_mostWeight 11 = .ok (.invokestatic 26, 3)), w_691, w_692⟩⟩
theorem kX2_mostWeight_17 : CallAt mX2_mostWeight 17 1 mX2_spot 2 := ⟨by decide +kernel, ⟨_, (by decide +kernel : decode cX2_mostWeight 17 = .ok (.invokestatic 52, 3)), w_734, w_735⟩⟩
theorem kX2_mostWeight_36 : CallAt mX2_mostWeight 36 0 mX2_heaviest 4 := ⟨by decide +kernel, ⟨_, (by decide +kernel : decode cX2_mostWeight 36 = .ok (.invokevirtual 76, 3)), w_804, w_806, w_26⟩⟩
theorem kX2_mostWeight_66 : CallAt mX2_mostWeight 66 0 mX2_weightBy 4 := ⟨by decide +kernel, ⟨_, (by decide +kernel : decode cX2_mostWeight 66 = .ok (.invokevirtual 80, 3)), w_808, w_810, w_27⟩⟩
theorem kX2_mostWeight_69 : CallAt mX2_mostWeight 69 1 mX5_put 3 := ⟨by decide +kernel, ⟨_, (by decide +kernel : decode cX2_mostWeight 69 = .ok (.invokestatic 44, 3)), w_722, w_432⟩⟩
theorem kX2_mostWeight_84 : CallAt mX2_mostWeight 84 1 mX2_spot 2 := ⟨by decide +kernel, ⟨_, (by decide +kernel : decode cX2_mostWeight 84 = .ok (.invokestatic 52, 3)), w_734, w_735⟩⟩
theorem kX2_mostWeight_87 : CallAt mX2_mostWeight 87 1 mX5_at 2 := ⟨by decide +kernel, ⟨_, (by decide +kernel : decode cX2_mostWeight 87 = .ok (.invokestatic 32, 3)), w_714, w_391⟩⟩

set_option maxRecDepth 20000 in
theorem GX2_digitsOfMost : Good mX2_digitsOfMost := ⟨by decide +kernel, List.mem_of_getElem? (i := 815) (by decide +kernel), inX2, ⟨by decide +kernel, by decide +kernel⟩, by decide, show ∀ q ∈ tX2_digitsOfMost, Snd mX2_digitsOfMost q.1 q.2 from
  sndC (sd_iconst (hd := (by decide +kernel : decode cX2_digitsOfMost 0 = .ok (.iconst 0, 1))) (hv := by decide)) (
   sndC (sd_istore_n (hi := rfl) (hd := (by decide +kernel : decode cX2_digitsOfMost 1 = .ok (.istore_n 3, 1)))) (
   sndC (sd_iconst (hd := (by decide +kernel : decode cX2_digitsOfMost 2 = .ok (.iconst 0, 1))) (hv := by decide)) (
   sndC (sd_istore (hd := (by decide +kernel : decode cX2_digitsOfMost 3 = .ok (.istore 4, 2)))) (
   sndC (sd_iconst (hd := (by decide +kernel : decode cX2_digitsOfMost 5 = .ok (.iconst 0, 1))) (hv := by decide)) (
   sndC (sd_istore (hd := (by decide +kernel : decode cX2_digitsOfMost 6 = .ok (.istore 5, 2)))) (
   sndC (sd_iload (hd := (by decide +kernel : decode cX2_digitsOfMost 8 = .ok (.iload 5, 2)))) (
   sndC (sd_bipush (hd := (by decide +kernel : decode cX2_digitsOfMost 10 = .ok (.bipush 6, 2))) (hv := by decide)) (
   sndC (sd_cmp_ge (ht := by decide) (hd := (by decide +kernel : decode cX2_digitsOfMost 12 = .ok (.if_icmp .ge 35, 3)))) (
   sndC (sd_iconst (hd := (by decide +kernel : decode cX2_digitsOfMost 15 = .ok (.iconst 0, 1))) (hv := by decide)) (
   sndC (sd_aload_n (hi := rfl) (hd := (by decide +kernel : decode cX2_digitsOfMost 16 = .ok (.aload_n 0, 1)))) (
   sndC (sd_iload_n (hi := rfl) (hd := (by decide +kernel : decode cX2_digitsOfMost 17 = .ok (.iload_n 1, 1)))) (
   sndC (sd_iload (hd := (by decide +kernel : decode cX2_digitsOfMost 18 = .ok (.iload 5, 2)))) (
   sndC (sd_iload (hd := (by decide +kernel : decode cX2_digitsOfMost 20 = .ok (.iload 4, 2)))) (
   sndC (sd_aload_n (hi := rfl) (hd := (by decide +kernel : decode cX2_digitsOfMost 22 = .ok (.aload_n 2, 1)))) (
   sndC (sd_max (hl := w_816) (hs0 := w_479) (hi0 := w_133) (hc0 := w_480) (hd := (by decide +kernel : decode cX2_digitsOfMost 26 = .ok (.invokestatic 83, 3)))) (
   sndC (sd_istore (hd := (by decide +kernel : decode cX2_digitsOfMost 29 = .ok (.istore 4, 2)))) (
   sndC (sd_iload_n (hi := rfl) (hd := (by decide +kernel : decode cX2_digitsOfMost 31 = .ok (.iload_n 3, 1)))) (
   sndC (sd_bipush (hd := (by decide +kernel : decode cX2_digitsOfMost 32 = .ok (.bipush 10, 2))) (hv := by decide)) (
   sndC (sd_imul (hd := (by decide +kernel : decode cX2_digitsOfMost 34 = .ok (.imul, 1)))) (
   sndC (sd_iload (hd := (by decide +kernel : decode cX2_digitsOfMost 35 = .ok (.iload 4, 2)))) (
   sndC (sd_iadd (hd := (by decide +kernel : decode cX2_digitsOfMost 37 = .ok (.iadd, 1)))) (
   sndC (sd_iconst (hd := (by decide +kernel : decode cX2_digitsOfMost 38 = .ok (.iconst 1, 1))) (hv := by decide)) (
   sndC (sd_iadd (hd := (by decide +kernel : decode cX2_digitsOfMost 39 = .ok (.iadd, 1)))) (
   sndC (sd_istore_n (hi := rfl) (hd := (by decide +kernel : decode cX2_digitsOfMost 40 = .ok (.istore_n 3, 1)))) (
   sndC (sd_iinc (hv := by decide) (hd := (by decide +kernel : decode cX2_digitsOfMost 41 = .ok (.iinc 5 1, 3)))) (
   sndC (sd_goto (ht := by decide) (hd := (by decide +kernel : decode cX2_digitsOfMost 44 = .ok (.goto (-36), 3)))) (
   sndC (sd_iload_n (hi := rfl) (hd := (by decide +kernel : decode cX2_digitsOfMost 47 = .ok (.iload_n 3, 1)))) (
   sndN))))))))))))))))))))))))))))⟩
theorem kX2_digitsOfMost_23 : CallAt mX2_digitsOfMost 23 0 mX2_heaviest 4 := ⟨by decide +kernel, ⟨_, (by decide +kernel : decode cX2_digitsOfMost 23 = .ok (.invokevirtual 76, 3)), w_804, w_806, w_26⟩⟩

set_option maxRecDepth 20000 in
theorem GX2_weightBy : Good mX2_weightBy := ⟨by decide +kernel, List.mem_of_getElem? (i := 811) (by decide +kernel), inX2, ⟨by decide +kernel, by decide +kernel⟩, by decide, show ∀ q ∈ tX2_weightBy, Snd mX2_weightBy q.1 q.2 from
  sndC (sd_aload (hd := (by decide +kernel : decode cX2_weightBy 0 = .ok (.aload 4, 2)))) (
   sndC (sd_iload_n (hi := rfl) (hd := (by decide +kernel : decode cX2_weightBy 2 = .ok (.iload_n 1, 1)))) (
   sndC (sd_iload_n (hi := rfl) (hd := (by decide +kernel : decode cX2_weightBy 3 = .ok (.iload_n 2, 1)))) (
   sndC (sd_iload_n (hi := rfl) (hd := (by decide +kernel : decode cX2_weightBy 4 = .ok (.iload_n 3, 1)))) (
   sndC (sd_aload_n (hi := rfl) (hd := (by decide +kernel : decode cX2_weightBy 11 = .ok (.aload_n 0, 1)))) (
   sndC (sd_get (C := RX2) (T := TX2) (N := 5) (hc := rfl) (hin0 := iX2) (hk := by decide) (hlink := w_219) (hd := (by decide +kernel : decode cX2_weightBy 12 = .ok (.getfield 20, 3)))) (
   sndC (sd_iload_n (hi := rfl) (hd := (by decide +kernel : decode cX2_weightBy 15 = .ok (.iload_n 1, 1)))) (
   sndC (sd_iconst (hd := (by decide +kernel : decode cX2_weightBy 16 = .ok (.iconst 1, 1))) (hv := by decide)) (
   sndC (sd_iadd (hd := (by decide +kernel : decode cX2_weightBy 17 = .ok (.iadd, 1)))) (
   sndC (sd_iload_n (hi := rfl) (hd := (by decide +kernel : decode cX2_weightBy 18 = .ok (.iload_n 3, 1)))) (
   sndC (sd_iadd (hd := (by decide +kernel : decode cX2_weightBy 25 = .ok (.iadd, 1)))) (
   sndN)))))))))))⟩
theorem kX2_weightBy_5 : CallAt mX2_weightBy 5 1 mX5_place 3 := ⟨by decide +kernel, ⟨_, (by decide +kernel : decode cX2_weightBy 5 = .ok (.invokestatic 36, 3)), w_715, w_716⟩⟩
theorem kX2_weightBy_8 : CallAt mX2_weightBy 8 1 mX5_at 2 := ⟨by decide +kernel, ⟨_, (by decide +kernel : decode cX2_weightBy 8 = .ok (.invokestatic 32, 3)), w_714, w_391⟩⟩
theorem kX2_weightBy_19 : CallAt mX2_weightBy 19 1 mX2_spot 2 := ⟨by decide +kernel, ⟨_, (by decide +kernel : decode cX2_weightBy 19 = .ok (.invokestatic 52, 3)), w_734, w_735⟩⟩
theorem kX2_weightBy_22 : CallAt mX2_weightBy 22 1 mX5_at 2 := ⟨by decide +kernel, ⟨_, (by decide +kernel : decode cX2_weightBy 22 = .ok (.invokestatic 32, 3)), w_714, w_391⟩⟩

set_option maxRecDepth 20000 in
theorem GX2_heaviest : Good mX2_heaviest := ⟨by decide +kernel, List.mem_of_getElem? (i := 807) (by decide +kernel), inX2, ⟨by decide +kernel, by decide +kernel⟩, by decide, show ∀ q ∈ tX2_heaviest, Snd mX2_heaviest q.1 q.2 from
  sndC (sd_iconst (hd := (by decide +kernel : decode cX2_heaviest 0 = .ok (.iconst (-1), 1))) (hv := by decide)) (
   sndC (sd_istore (hd := (by decide +kernel : decode cX2_heaviest 1 = .ok (.istore 5, 2)))) (
   sndC (sd_iconst (hd := (by decide +kernel : decode cX2_heaviest 3 = .ok (.iconst 0, 1))) (hv := by decide)) (
   sndC (sd_istore (hd := (by decide +kernel : decode cX2_heaviest 4 = .ok (.istore 6, 2)))) (
   sndC (sd_iconst (hd := (by decide +kernel : decode cX2_heaviest 6 = .ok (.iconst 0, 1))) (hv := by decide)) (
   sndC (sd_istore (hd := (by decide +kernel : decode cX2_heaviest 7 = .ok (.istore 7, 2)))) (
   sndC (sd_iload (hd := (by decide +kernel : decode cX2_heaviest 9 = .ok (.iload 7, 2)))) (
   sndC (sd_iconst (hd := (by decide +kernel : decode cX2_heaviest 11 = .ok (.iconst 4, 1))) (hv := by decide)) (
   sndC (sd_cmp_ge (ht := by decide) (hd := (by decide +kernel : decode cX2_heaviest 12 = .ok (.if_icmp .ge 54, 3)))) (
   sndC (sd_aload_n (hi := rfl) (hd := (by decide +kernel : decode cX2_heaviest 15 = .ok (.aload_n 0, 1)))) (
   sndC (sd_iload_n (hi := rfl) (hd := (by decide +kernel : decode cX2_heaviest 16 = .ok (.iload_n 1, 1)))) (
   sndC (sd_iload_n (hi := rfl) (hd := (by decide +kernel : decode cX2_heaviest 17 = .ok (.iload_n 2, 1)))) (
   sndC (sd_iload_n (hi := rfl) (hd := (by decide +kernel : decode cX2_heaviest 18 = .ok (.iload_n 3, 1)))) (
   sndC (sd_iload (hd := (by decide +kernel : decode cX2_heaviest 19 = .ok (.iload 7, 2)))) (
   sndC (sd_if_le (ht := by decide) (hd := (by decide +kernel : decode cX2_heaviest 24 = .ok (.ifCond .le 36, 3)))) (
   sndC (sd_aload_n (hi := rfl) (hd := (by decide +kernel : decode cX2_heaviest 27 = .ok (.aload_n 0, 1)))) (
   sndC (sd_iload_n (hi := rfl) (hd := (by decide +kernel : decode cX2_heaviest 28 = .ok (.iload_n 2, 1)))) (
   sndC (sd_iload_n (hi := rfl) (hd := (by decide +kernel : decode cX2_heaviest 29 = .ok (.iload_n 3, 1)))) (
   sndC (sd_iload (hd := (by decide +kernel : decode cX2_heaviest 30 = .ok (.iload 7, 2)))) (
   sndC (sd_aload (hd := (by decide +kernel : decode cX2_heaviest 32 = .ok (.aload 4, 2)))) (
   sndC (sd_istore (hd := (by decide +kernel : decode cX2_heaviest 37 = .ok (.istore 8, 2)))) (
   sndC (sd_iload (hd := (by decide +kernel : decode cX2_heaviest 39 = .ok (.iload 5, 2)))) (
   sndC (sd_iconst (hd := (by decide +kernel : decode cX2_heaviest 41 = .ok (.iconst (-1), 1))) (hv := by decide)) (
   sndC (sd_cmp_eq (ht := by decide) (hd := (by decide +kernel : decode cX2_heaviest 42 = .ok (.if_icmp .eq 10, 3)))) (
   sndC (sd_iload (hd := (by decide +kernel : decode cX2_heaviest 45 = .ok (.iload 8, 2)))) (
   sndC (sd_iload (hd := (by decide +kernel : decode cX2_heaviest 47 = .ok (.iload 6, 2)))) (
   sndC (sd_cmp_le (ht := by decide) (hd := (by decide +kernel : decode cX2_heaviest 49 = .ok (.if_icmp .le 11, 3)))) (
   sndC (sd_iload (hd := (by decide +kernel : decode cX2_heaviest 52 = .ok (.iload 7, 2)))) (
   sndC (sd_istore (hd := (by decide +kernel : decode cX2_heaviest 54 = .ok (.istore 5, 2)))) (
   sndC (sd_iload (hd := (by decide +kernel : decode cX2_heaviest 56 = .ok (.iload 8, 2)))) (
   sndC (sd_istore (hd := (by decide +kernel : decode cX2_heaviest 58 = .ok (.istore 6, 2)))) (
   sndC (sd_iinc (hv := by decide) (hd := (by decide +kernel : decode cX2_heaviest 60 = .ok (.iinc 7 1, 3)))) (
   sndC (sd_goto (ht := by decide) (hd := (by decide +kernel : decode cX2_heaviest 63 = .ok (.goto (-54), 3)))) (
   sndC (sd_iload (hd := (by decide +kernel : decode cX2_heaviest 66 = .ok (.iload 5, 2)))) (
   sndN))))))))))))))))))))))))))))))))))⟩
theorem kX2_heaviest_21 : CallAt mX2_heaviest 21 0 mX2_waysBy 4 := ⟨by decide +kernel, ⟨_, (by decide +kernel : decode cX2_heaviest 21 = .ok (.invokevirtual 60, 3)), w_737, w_739, w_18⟩⟩
theorem kX2_heaviest_34 : CallAt mX2_heaviest 34 0 mX2_weightBy 4 := ⟨by decide +kernel, ⟨_, (by decide +kernel : decode cX2_heaviest 34 = .ok (.invokevirtual 80, 3)), w_808, w_810, w_27⟩⟩

set_option maxRecDepth 20000 in
theorem GX2_mostToldAlike : Good mX2_mostToldAlike := ⟨by decide +kernel, List.mem_of_getElem? (i := 828) (by decide +kernel), inX2, ⟨by decide +kernel, by decide +kernel⟩, by decide, show ∀ q ∈ tX2_mostToldAlike, Snd mX2_mostToldAlike q.1 q.2 from
  sndC (sd_aload_n (hi := rfl) (hd := (by decide +kernel : decode cX2_mostToldAlike 0 = .ok (.aload_n 0, 1)))) (
   sndC (sd_iload_n (hi := rfl) (hd := (by decide +kernel : decode cX2_mostToldAlike 1 = .ok (.iload_n 1, 1)))) (
   sndC (sd_aload_n (hi := rfl) (hd := (by decide +kernel : decode cX2_mostToldAlike 2 = .ok (.aload_n 2, 1)))) (
   sndC (sd_aload_n (hi := rfl) (hd := (by decide +kernel : decode cX2_mostToldAlike 6 = .ok (.aload_n 0, 1)))) (
   sndC (sd_get (C := RX2) (T := TX2) (N := 5) (hc := rfl) (hin0 := iX2) (hk := by decide) (hlink := w_220) (hd := (by decide +kernel : decode cX2_mostToldAlike 7 = .ok (.getfield 23, 3)))) (
   sndC (sd_iconst (hd := (by decide +kernel : decode cX2_mostToldAlike 10 = .ok (.iconst 0, 1))) (hv := by decide)) (
   sndC (sd_aload_n (hi := rfl) (hd := (by decide +kernel : decode cX2_mostToldAlike 14 = .ok (.aload_n 0, 1)))) (
   sndC (sd_get (C := RX2) (T := TX2) (N := 5) (hc := rfl) (hin0 := iX2) (hk := by decide) (hlink := w_220) (hd := (by decide +kernel : decode cX2_mostToldAlike 15 = .ok (.getfield 23, 3)))) (
   sndC (sd_iconst (hd := (by decide +kernel : decode cX2_mostToldAlike 18 = .ok (.iconst 0, 1))) (hv := by decide)) (
   sndC (sd_iconst (hd := (by decide +kernel : decode cX2_mostToldAlike 19 = .ok (.iconst 0, 1))) (hv := by decide)) (
   sndC (sd_iconst (hd := (by decide +kernel : decode cX2_mostToldAlike 23 = .ok (.iconst 1, 1))) (hv := by decide)) (
   sndC (sd_aload_n (hi := rfl) (hd := (by decide +kernel : decode cX2_mostToldAlike 27 = .ok (.aload_n 0, 1)))) (
   sndC (sd_iconst (hd := (by decide +kernel : decode cX2_mostToldAlike 28 = .ok (.iconst 0, 1))) (hv := by decide)) (
   sndC (sd_putI (C := RX2) (T := TX2) (N := 5) (hc := rfl) (hin0 := iX2) (hk := by decide) (hlink := w_221) (ty0 := tyX2) (hty := tyX2_ok) (hnm := nmX2) (hfin := rfl) (hi := rfl) (hd := (by decide +kernel : decode cX2_mostToldAlike 29 = .ok (.putfield 92, 3)))) (
   sndC (sd_aload_n (hi := rfl) (hd := (by decide +kernel : decode cX2_mostToldAlike 32 = .ok (.aload_n 0, 1)))) (
   sndC (sd_iload_n (hi := rfl) (hd := (by decide +kernel : decode cX2_mostToldAlike 33 = .ok (.iload_n 1, 1)))) (
   sndC (sd_aload_n (hi := rfl) (hd := (by decide +kernel : decode cX2_mostToldAlike 34 = .ok (.aload_n 2, 1)))) (
   sndC (sd_iconst (hd := (by decide +kernel : decode cX2_mostToldAlike 35 = .ok (.iconst 0, 1))) (hv := by decide)) (
   sndC (sd_aload_n (hi := rfl) (hd := (by decide +kernel : decode cX2_mostToldAlike 39 = .ok (.aload_n 0, 1)))) (
   sndC (sd_get (C := RX2) (T := TX2) (N := 5) (hc := rfl) (hin0 := iX2) (hk := by decide) (hlink := w_221) (hd := (by decide +kernel : decode cX2_mostToldAlike 40 = .ok (.getfield 92, 3)))) (
   sndN))))))))))))))))))))⟩
theorem kX2_mostToldAlike_3 : CallAt mX2_mostToldAlike 3 0 mX2_fillBounds 2 := ⟨by decide +kernel, ⟨_, (by decide +kernel : decode cX2_mostToldAlike 3 = .ok (.invokevirtual 88, 3)), w_829, w_831, w_29⟩⟩
theorem kX2_mostToldAlike_11 : CallAt mX2_mostToldAlike 11 1 mJ7_fill_53178 2 := ⟨by decide +kernel, ⟨_, (by decide +kernel : decode cX2_mostToldAlike 11 = .ok (.invokestatic 26, 3)), w_691, w_692⟩⟩
theorem kX2_mostToldAlike_20 : CallAt mX2_mostToldAlike 20 1 mX2_spot 2 := ⟨by decide +kernel, ⟨_, (by decide +kernel : decode cX2_mostToldAlike 20 = .ok (.invokestatic 52, 3)), w_734, w_735⟩⟩
theorem kX2_mostToldAlike_24 : CallAt mX2_mostToldAlike 24 1 mX5_put 3 := ⟨by decide +kernel, ⟨_, (by decide +kernel : decode cX2_mostToldAlike 24 = .ok (.invokestatic 44, 3)), w_722, w_432⟩⟩
theorem kX2_mostToldAlike_36 : CallAt mX2_mostToldAlike 36 0 mX2_follow 3 := ⟨by decide +kernel, ⟨_, (by decide +kernel : decode cX2_mostToldAlike 36 = .ok (.invokevirtual 96, 3)), w_841, w_843, w_32⟩⟩

set_option maxRecDepth 20000 in
theorem GX2_fillBounds : Good mX2_fillBounds := ⟨by decide +kernel, List.mem_of_getElem? (i := 832) (by decide +kernel), inX2, ⟨by decide +kernel, by decide +kernel⟩, by decide, show ∀ q ∈ tX2_fillBounds, Snd mX2_fillBounds q.1 q.2 from
  sndC (sd_aload_n (hi := rfl) (hd := (by decide +kernel : decode cX2_fillBounds 0 = .ok (.aload_n 0, 1)))) (
   sndC (sd_get (C := RX2) (T := TX2) (N := 5) (hc := rfl) (hin0 := iX2) (hk := by decide) (hlink := w_219) (hd := (by decide +kernel : decode cX2_fillBounds 1 = .ok (.getfield 20, 3)))) (
   sndC (sd_bipush (hd := (by decide +kernel : decode cX2_fillBounds 7 = .ok (.bipush 6, 2))) (hv := by decide)) (
   sndC (sd_iconst (hd := (by decide +kernel : decode cX2_fillBounds 9 = .ok (.iconst 0, 1))) (hv := by decide)) (
   sndC (sd_iconst (hd := (by decide +kernel : decode cX2_fillBounds 13 = .ok (.iconst 1, 1))) (hv := by decide)) (
   sndC (sd_isub (hd := (by decide +kernel : decode cX2_fillBounds 14 = .ok (.isub, 1)))) (
   sndC (sd_istore_n (hi := rfl) (hd := (by decide +kernel : decode cX2_fillBounds 15 = .ok (.istore_n 3, 1)))) (
   sndC (sd_iload_n (hi := rfl) (hd := (by decide +kernel : decode cX2_fillBounds 16 = .ok (.iload_n 3, 1)))) (
   sndC (sd_if_lt (ht := by decide) (hd := (by decide +kernel : decode cX2_fillBounds 17 = .ok (.ifCond .lt 53, 3)))) (
   sndC (sd_iconst (hd := (by decide +kernel : decode cX2_fillBounds 20 = .ok (.iconst 0, 1))) (hv := by decide)) (
   sndC (sd_istore (hd := (by decide +kernel : decode cX2_fillBounds 21 = .ok (.istore 4, 2)))) (
   sndC (sd_iconst (hd := (by decide +kernel : decode cX2_fillBounds 23 = .ok (.iconst (-1), 1))) (hv := by decide)) (
   sndC (sd_istore (hd := (by decide +kernel : decode cX2_fillBounds 24 = .ok (.istore 5, 2)))) (
   sndC (sd_iload (hd := (by decide +kernel : decode cX2_fillBounds 26 = .ok (.iload 5, 2)))) (
   sndC (sd_iconst (hd := (by decide +kernel : decode cX2_fillBounds 28 = .ok (.iconst 5, 1))) (hv := by decide)) (
   sndC (sd_cmp_gt (ht := by decide) (hd := (by decide +kernel : decode cX2_fillBounds 29 = .ok (.if_icmp .gt 25, 3)))) (
   sndC (sd_iload (hd := (by decide +kernel : decode cX2_fillBounds 32 = .ok (.iload 4, 2)))) (
   sndC (sd_aload_n (hi := rfl) (hd := (by decide +kernel : decode cX2_fillBounds 34 = .ok (.aload_n 0, 1)))) (
   sndC (sd_iload_n (hi := rfl) (hd := (by decide +kernel : decode cX2_fillBounds 35 = .ok (.iload_n 1, 1)))) (
   sndC (sd_aload_n (hi := rfl) (hd := (by decide +kernel : decode cX2_fillBounds 36 = .ok (.aload_n 2, 1)))) (
   sndC (sd_iload_n (hi := rfl) (hd := (by decide +kernel : decode cX2_fillBounds 37 = .ok (.iload_n 3, 1)))) (
   sndC (sd_iload (hd := (by decide +kernel : decode cX2_fillBounds 38 = .ok (.iload 5, 2)))) (
   sndC (sd_max (hl := w_816) (hs0 := w_479) (hi0 := w_133) (hc0 := w_480) (hd := (by decide +kernel : decode cX2_fillBounds 43 = .ok (.invokestatic 83, 3)))) (
   sndC (sd_istore (hd := (by decide +kernel : decode cX2_fillBounds 46 = .ok (.istore 4, 2)))) (
   sndC (sd_iinc (hv := by decide) (hd := (by decide +kernel : decode cX2_fillBounds 48 = .ok (.iinc 5 1, 3)))) (
   sndC (sd_goto (ht := by decide) (hd := (by decide +kernel : decode cX2_fillBounds 51 = .ok (.goto (-25), 3)))) (
   sndC (sd_aload_n (hi := rfl) (hd := (by decide +kernel : decode cX2_fillBounds 54 = .ok (.aload_n 0, 1)))) (
   sndC (sd_get (C := RX2) (T := TX2) (N := 5) (hc := rfl) (hin0 := iX2) (hk := by decide) (hlink := w_219) (hd := (by decide +kernel : decode cX2_fillBounds 55 = .ok (.getfield 20, 3)))) (
   sndC (sd_iload_n (hi := rfl) (hd := (by decide +kernel : decode cX2_fillBounds 58 = .ok (.iload_n 3, 1)))) (
   sndC (sd_iload (hd := (by decide +kernel : decode cX2_fillBounds 59 = .ok (.iload 4, 2)))) (
   sndC (sd_iinc (hv := by decide) (hd := (by decide +kernel : decode cX2_fillBounds 64 = .ok (.iinc 3 (-1), 3)))) (
   sndC (sd_goto (ht := by decide) (hd := (by decide +kernel : decode cX2_fillBounds 67 = .ok (.goto (-51), 3)))) (
   sndN))))))))))))))))))))))))))))))))⟩
theorem kX2_fillBounds_4 : CallAt mX2_fillBounds 4 1 mX2_endWithOnes 1 := ⟨by decide +kernel, ⟨_, (by decide +kernel : decode cX2_fillBounds 4 = .ok (.invokestatic 56, 3)), w_731, w_732⟩⟩
theorem kX2_fillBounds_10 : CallAt mX2_fillBounds 10 1 mX2_spot 2 := ⟨by decide +kernel, ⟨_, (by decide +kernel : decode cX2_fillBounds 10 = .ok (.invokestatic 52, 3)), w_734, w_735⟩⟩
theorem kX2_fillBounds_40 : CallAt mX2_fillBounds 40 0 mX2_boundBy 4 := ⟨by decide +kernel, ⟨_, (by decide +kernel : decode cX2_fillBounds 40 = .ok (.invokevirtual 102, 3)), w_833, w_835, w_30⟩⟩
theorem kX2_fillBounds_61 : CallAt mX2_fillBounds 61 1 mX5_put 3 := ⟨by decide +kernel, ⟨_, (by decide +kernel : decode cX2_fillBounds 61 = .ok (.invokestatic 44, 3)), w_722, w_432⟩⟩

set_option maxRecDepth 20000 in
theorem GX2_boundBy : Good mX2_boundBy := ⟨by decide +kernel, List.mem_of_getElem? (i := 836) (by decide +kernel), inX2, ⟨by decide +kernel, by decide +kernel⟩, by decide, show ∀ q ∈ tX2_boundBy, Snd mX2_boundBy q.1 q.2 from
  sndC (sd_iconst (hd := (by decide +kernel : decode cX2_boundBy 0 = .ok (.iconst 0, 1))) (hv := by decide)) (
   sndC (sd_istore (hd := (by decide +kernel : decode cX2_boundBy 1 = .ok (.istore 5, 2)))) (
   sndC (sd_iconst (hd := (by decide +kernel : decode cX2_boundBy 3 = .ok (.iconst 0, 1))) (hv := by decide)) (
   sndC (sd_istore (hd := (by decide +kernel : decode cX2_boundBy 4 = .ok (.istore 6, 2)))) (
   sndC (sd_iload (hd := (by decide +kernel : decode cX2_boundBy 6 = .ok (.iload 6, 2)))) (
   sndC (sd_iconst (hd := (by decide +kernel : decode cX2_boundBy 8 = .ok (.iconst 4, 1))) (hv := by decide)) (
   sndC (sd_cmp_ge (ht := by decide) (hd := (by decide +kernel : decode cX2_boundBy 9 = .ok (.if_icmp .ge 45, 3)))) (
   sndC (sd_aload_n (hi := rfl) (hd := (by decide +kernel : decode cX2_boundBy 12 = .ok (.aload_n 0, 1)))) (
   sndC (sd_iload_n (hi := rfl) (hd := (by decide +kernel : decode cX2_boundBy 13 = .ok (.iload_n 1, 1)))) (
   sndC (sd_aload_n (hi := rfl) (hd := (by decide +kernel : decode cX2_boundBy 14 = .ok (.aload_n 2, 1)))) (
   sndC (sd_iload_n (hi := rfl) (hd := (by decide +kernel : decode cX2_boundBy 15 = .ok (.iload_n 3, 1)))) (
   sndC (sd_iload (hd := (by decide +kernel : decode cX2_boundBy 16 = .ok (.iload 6, 2)))) (
   sndC (sd_iload (hd := (by decide +kernel : decode cX2_boundBy 18 = .ok (.iload 4, 2)))) (
   sndC (sd_if_eq (ht := by decide) (hd := (by decide +kernel : decode cX2_boundBy 23 = .ok (.ifCond .eq 25, 3)))) (
   sndC (sd_iload (hd := (by decide +kernel : decode cX2_boundBy 26 = .ok (.iload 5, 2)))) (
   sndC (sd_aload_n (hi := rfl) (hd := (by decide +kernel : decode cX2_boundBy 28 = .ok (.aload_n 0, 1)))) (
   sndC (sd_get (C := RX2) (T := TX2) (N := 5) (hc := rfl) (hin0 := iX2) (hk := by decide) (hlink := w_219) (hd := (by decide +kernel : decode cX2_boundBy 29 = .ok (.getfield 20, 3)))) (
   sndC (sd_iload_n (hi := rfl) (hd := (by decide +kernel : decode cX2_boundBy 32 = .ok (.iload_n 3, 1)))) (
   sndC (sd_iconst (hd := (by decide +kernel : decode cX2_boundBy 33 = .ok (.iconst 4, 1))) (hv := by decide)) (
   sndC (sd_idiv (hd := (by decide +kernel : decode cX2_boundBy 34 = .ok (.idiv, 1)))) (
   sndC (sd_iconst (hd := (by decide +kernel : decode cX2_boundBy 35 = .ok (.iconst 1, 1))) (hv := by decide)) (
   sndC (sd_iadd (hd := (by decide +kernel : decode cX2_boundBy 36 = .ok (.iadd, 1)))) (
   sndC (sd_iload (hd := (by decide +kernel : decode cX2_boundBy 37 = .ok (.iload 6, 2)))) (
   sndC (sd_iadd (hd := (by decide +kernel : decode cX2_boundBy 45 = .ok (.iadd, 1)))) (
   sndC (sd_istore (hd := (by decide +kernel : decode cX2_boundBy 46 = .ok (.istore 5, 2)))) (
   sndC (sd_iinc (hv := by decide) (hd := (by decide +kernel : decode cX2_boundBy 48 = .ok (.iinc 6 1, 3)))) (
   sndC (sd_goto (ht := by decide) (hd := (by decide +kernel : decode cX2_boundBy 51 = .ok (.goto (-45), 3)))) (
   sndC (sd_iload (hd := (by decide +kernel : decode cX2_boundBy 54 = .ok (.iload 5, 2)))) (
   sndN))))))))))))))))))))))))))))⟩
theorem kX2_boundBy_20 : CallAt mX2_boundBy 20 0 mX2_isTold 5 := ⟨by decide +kernel, ⟨_, (by decide +kernel : decode cX2_boundBy 20 = .ok (.invokevirtual 106, 3)), w_837, w_839, w_31⟩⟩
theorem kX2_boundBy_39 : CallAt mX2_boundBy 39 1 mX2_spot 2 := ⟨by decide +kernel, ⟨_, (by decide +kernel : decode cX2_boundBy 39 = .ok (.invokestatic 52, 3)), w_734, w_735⟩⟩
theorem kX2_boundBy_42 : CallAt mX2_boundBy 42 1 mX5_at 2 := ⟨by decide +kernel, ⟨_, (by decide +kernel : decode cX2_boundBy 42 = .ok (.invokestatic 32, 3)), w_714, w_391⟩⟩

set_option maxRecDepth 20000 in
theorem GX2_isTold : Good mX2_isTold := ⟨by decide +kernel, List.mem_of_getElem? (i := 840) (by decide +kernel), inX2, ⟨by decide +kernel, by decide +kernel⟩, by decide, show ∀ q ∈ tX2_isTold, Snd mX2_isTold q.1 q.2 from
  sndC (sd_aload_n (hi := rfl) (hd := (by decide +kernel : decode cX2_isTold 0 = .ok (.aload_n 0, 1)))) (
   sndC (sd_iload_n (hi := rfl) (hd := (by decide +kernel : decode cX2_isTold 1 = .ok (.iload_n 1, 1)))) (
   sndC (sd_iload_n (hi := rfl) (hd := (by decide +kernel : decode cX2_isTold 2 = .ok (.iload_n 3, 1)))) (
   sndC (sd_iconst (hd := (by decide +kernel : decode cX2_isTold 3 = .ok (.iconst 4, 1))) (hv := by decide)) (
   sndC (sd_idiv (hd := (by decide +kernel : decode cX2_isTold 4 = .ok (.idiv, 1)))) (
   sndC (sd_iload_n (hi := rfl) (hd := (by decide +kernel : decode cX2_isTold 5 = .ok (.iload_n 3, 1)))) (
   sndC (sd_iconst (hd := (by decide +kernel : decode cX2_isTold 6 = .ok (.iconst 4, 1))) (hv := by decide)) (
   sndC (sd_irem (hd := (by decide +kernel : decode cX2_isTold 7 = .ok (.irem, 1)))) (
   sndC (sd_iload (hd := (by decide +kernel : decode cX2_isTold 8 = .ok (.iload 4, 2)))) (
   sndC (sd_if_eq (ht := by decide) (hd := (by decide +kernel : decode cX2_isTold 13 = .ok (.ifCond .eq 22, 3)))) (
   sndC (sd_aload_n (hi := rfl) (hd := (by decide +kernel : decode cX2_isTold 16 = .ok (.aload_n 2, 1)))) (
   sndC (sd_iload_n (hi := rfl) (hd := (by decide +kernel : decode cX2_isTold 17 = .ok (.iload_n 3, 1)))) (
   sndC (sd_iconst (hd := (by decide +kernel : decode cX2_isTold 18 = .ok (.iconst 4, 1))) (hv := by decide)) (
   sndC (sd_imul (hd := (by decide +kernel : decode cX2_isTold 19 = .ok (.imul, 1)))) (
   sndC (sd_iload (hd := (by decide +kernel : decode cX2_isTold 20 = .ok (.iload 4, 2)))) (
   sndC (sd_iadd (hd := (by decide +kernel : decode cX2_isTold 22 = .ok (.iadd, 1)))) (
   sndC (sd_iload (hd := (by decide +kernel : decode cX2_isTold 26 = .ok (.iload 5, 2)))) (
   sndC (sd_cmp_ne (ht := by decide) (hd := (by decide +kernel : decode cX2_isTold 28 = .ok (.if_icmp .ne 7, 3)))) (
   sndC (sd_iconst (hd := (by decide +kernel : decode cX2_isTold 31 = .ok (.iconst 1, 1))) (hv := by decide)) (
   sndC (sd_goto (ht := by decide) (hd := (by decide +kernel : decode cX2_isTold 32 = .ok (.goto 4, 3)))) (
   sndC (sd_iconst (hd := (by decide +kernel : decode cX2_isTold 35 = .ok (.iconst 0, 1))) (hv := by decide)) (
   sndN)))))))))))))))))))))⟩
theorem kX2_isTold_10 : CallAt mX2_isTold 10 0 mX2_fits 4 := ⟨by decide +kernel, ⟨_, (by decide +kernel : decode cX2_isTold 10 = .ok (.invokevirtual 48, 3)), w_741, w_743, w_19⟩⟩
theorem kX2_isTold_23 : CallAt mX2_isTold 23 1 mX5_at 2 := ⟨by decide +kernel, ⟨_, (by decide +kernel : decode cX2_isTold 23 = .ok (.invokestatic 32, 3)), w_714, w_391⟩⟩

set_option maxRecDepth 20000 in
theorem GX2_follow : Good mX2_follow := ⟨by decide +kernel, List.mem_of_getElem? (i := 844) (by decide +kernel), inX2, ⟨by decide +kernel, by decide +kernel⟩, by decide, show ∀ q ∈ tX2_follow, Snd mX2_follow q.1 q.2 from
  sndC (sd_iconst (hd := (by decide +kernel : decode cX2_follow 0 = .ok (.iconst (-1), 1))) (hv := by decide)) (
   sndC (sd_istore (hd := (by decide +kernel : decode cX2_follow 1 = .ok (.istore 4, 2)))) (
   sndC (sd_iload_n (hi := rfl) (hd := (by decide +kernel : decode cX2_follow 3 = .ok (.iload_n 3, 1)))) (
   sndC (sd_bipush (hd := (by decide +kernel : decode cX2_follow 4 = .ok (.bipush 6, 2))) (hv := by decide)) (
   sndC (sd_cmp_ge (ht := by decide) (hd := (by decide +kernel : decode cX2_follow 6 = .ok (.if_icmp .ge 46, 3)))) (
   sndC (sd_iload (hd := (by decide +kernel : decode cX2_follow 9 = .ok (.iload 4, 2)))) (
   sndC (sd_iconst (hd := (by decide +kernel : decode cX2_follow 11 = .ok (.iconst 5, 1))) (hv := by decide)) (
   sndC (sd_cmp_gt (ht := by decide) (hd := (by decide +kernel : decode cX2_follow 12 = .ok (.if_icmp .gt 40, 3)))) (
   sndC (sd_aload_n (hi := rfl) (hd := (by decide +kernel : decode cX2_follow 15 = .ok (.aload_n 0, 1)))) (
   sndC (sd_iload_n (hi := rfl) (hd := (by decide +kernel : decode cX2_follow 16 = .ok (.iload_n 1, 1)))) (
   sndC (sd_aload_n (hi := rfl) (hd := (by decide +kernel : decode cX2_follow 17 = .ok (.aload_n 2, 1)))) (
   sndC (sd_iload_n (hi := rfl) (hd := (by decide +kernel : decode cX2_follow 18 = .ok (.iload_n 3, 1)))) (
   sndC (sd_iload (hd := (by decide +kernel : decode cX2_follow 19 = .ok (.iload 4, 2)))) (
   sndC (sd_istore (hd := (by decide +kernel : decode cX2_follow 24 = .ok (.istore 5, 2)))) (
   sndC (sd_iload (hd := (by decide +kernel : decode cX2_follow 26 = .ok (.iload 5, 2)))) (
   sndC (sd_aload_n (hi := rfl) (hd := (by decide +kernel : decode cX2_follow 28 = .ok (.aload_n 0, 1)))) (
   sndC (sd_get (C := RX2) (T := TX2) (N := 5) (hc := rfl) (hin0 := iX2) (hk := by decide) (hlink := w_221) (hd := (by decide +kernel : decode cX2_follow 29 = .ok (.getfield 92, 3)))) (
   sndC (sd_cmp_le (ht := by decide) (hd := (by decide +kernel : decode cX2_follow 32 = .ok (.if_icmp .le 14, 3)))) (
   sndC (sd_aload_n (hi := rfl) (hd := (by decide +kernel : decode cX2_follow 35 = .ok (.aload_n 0, 1)))) (
   sndC (sd_iload_n (hi := rfl) (hd := (by decide +kernel : decode cX2_follow 36 = .ok (.iload_n 1, 1)))) (
   sndC (sd_aload_n (hi := rfl) (hd := (by decide +kernel : decode cX2_follow 37 = .ok (.aload_n 2, 1)))) (
   sndC (sd_iload_n (hi := rfl) (hd := (by decide +kernel : decode cX2_follow 38 = .ok (.iload_n 3, 1)))) (
   sndC (sd_iconst (hd := (by decide +kernel : decode cX2_follow 39 = .ok (.iconst 1, 1))) (hv := by decide)) (
   sndC (sd_iadd (hd := (by decide +kernel : decode cX2_follow 40 = .ok (.iadd, 1)))) (
   sndC (sd_iload (hd := (by decide +kernel : decode cX2_follow 41 = .ok (.iload 5, 2)))) (
   sndC (sd_iinc (hv := by decide) (hd := (by decide +kernel : decode cX2_follow 46 = .ok (.iinc 4 1, 3)))) (
   sndC (sd_goto (ht := by decide) (hd := (by decide +kernel : decode cX2_follow 49 = .ok (.goto (-46), 3)))) (
   sndN)))))))))))))))))))))))))))⟩
theorem kX2_follow_21 : CallAt mX2_follow 21 0 mX2_spread 4 := ⟨by decide +kernel, ⟨_, (by decide +kernel : decode cX2_follow 21 = .ok (.invokevirtual 110, 3)), w_845, w_847, w_33⟩⟩
theorem kX2_follow_43 : CallAt mX2_follow 43 0 mX2_reach 4 := ⟨by decide +kernel, ⟨_, (by decide +kernel : decode cX2_follow 43 = .ok (.invokevirtual 113, 3)), w_849, w_851, w_34⟩⟩

set_option maxRecDepth 20000 in
theorem GX2_reach : Good mX2_reach := ⟨by decide +kernel, List.mem_of_getElem? (i := 852) (by decide +kernel), inX2, ⟨by decide +kernel, by decide +kernel⟩, by decide, show ∀ q ∈ tX2_reach, Snd mX2_reach q.1 q.2 from
  sndC (sd_iload_n (hi := rfl) (hd := (by decide +kernel : decode cX2_reach 0 = .ok (.iload_n 3, 1)))) (
   sndC (sd_bipush (hd := (by decide +kernel : decode cX2_reach 1 = .ok (.bipush 6, 2))) (hv := by decide)) (
   sndC (sd_cmp_ge (ht := by decide) (hd := (by decide +kernel : decode cX2_reach 3 = .ok (.if_icmp .ge 13, 3)))) (
   sndC (sd_aload_n (hi := rfl) (hd := (by decide +kernel : decode cX2_reach 6 = .ok (.aload_n 0, 1)))) (
   sndC (sd_iload_n (hi := rfl) (hd := (by decide +kernel : decode cX2_reach 7 = .ok (.iload_n 1, 1)))) (
   sndC (sd_aload_n (hi := rfl) (hd := (by decide +kernel : decode cX2_reach 8 = .ok (.aload_n 2, 1)))) (
   sndC (sd_iload_n (hi := rfl) (hd := (by decide +kernel : decode cX2_reach 9 = .ok (.iload_n 3, 1)))) (
   sndC (sd_goto (ht := by decide) (hd := (by decide +kernel : decode cX2_reach 13 = .ok (.goto 9, 3)))) (
   sndC (sd_aload_n (hi := rfl) (hd := (by decide +kernel : decode cX2_reach 16 = .ok (.aload_n 0, 1)))) (
   sndC (sd_iload (hd := (by decide +kernel : decode cX2_reach 17 = .ok (.iload 4, 2)))) (
   sndC (sd_putI (C := RX2) (T := TX2) (N := 5) (hc := rfl) (hin0 := iX2) (hk := by decide) (hlink := w_221) (ty0 := tyX2) (hty := tyX2_ok) (hnm := nmX2) (hfin := rfl) (hi := rfl) (hd := (by decide +kernel : decode cX2_reach 19 = .ok (.putfield 92, 3)))) (
   sndN)))))))))))⟩
theorem kX2_reach_10 : CallAt mX2_reach 10 0 mX2_follow 3 := ⟨by decide +kernel, ⟨_, (by decide +kernel : decode cX2_reach 10 = .ok (.invokevirtual 96, 3)), w_841, w_843, w_32⟩⟩

set_option maxRecDepth 20000 in
theorem GX2_spread : Good mX2_spread := ⟨by decide +kernel, List.mem_of_getElem? (i := 848) (by decide +kernel), inX2, ⟨by decide +kernel, by decide +kernel⟩, by decide, show ∀ q ∈ tX2_spread, Snd mX2_spread q.1 q.2 from
  sndC (sd_iconst (hd := (by decide +kernel : decode cX2_spread 0 = .ok (.iconst 0, 1))) (hv := by decide)) (
   sndC (sd_istore (hd := (by decide +kernel : decode cX2_spread 1 = .ok (.istore 5, 2)))) (
   sndC (sd_iconst (hd := (by decide +kernel : decode cX2_spread 3 = .ok (.iconst 0, 1))) (hv := by decide)) (
   sndC (sd_istore (hd := (by decide +kernel : decode cX2_spread 4 = .ok (.istore 6, 2)))) (
   sndC (sd_iload (hd := (by decide +kernel : decode cX2_spread 6 = .ok (.iload 6, 2)))) (
   sndC (sd_iconst (hd := (by decide +kernel : decode cX2_spread 8 = .ok (.iconst 4, 1))) (hv := by decide)) (
   sndC (sd_cmp_ge (ht := by decide) (hd := (by decide +kernel : decode cX2_spread 9 = .ok (.if_icmp .ge 104, 3)))) (
   sndC (sd_iconst (hd := (by decide +kernel : decode cX2_spread 12 = .ok (.iconst 0, 1))) (hv := by decide)) (
   sndC (sd_istore (hd := (by decide +kernel : decode cX2_spread 13 = .ok (.istore 7, 2)))) (
   sndC (sd_iconst (hd := (by decide +kernel : decode cX2_spread 15 = .ok (.iconst 0, 1))) (hv := by decide)) (
   sndC (sd_istore (hd := (by decide +kernel : decode cX2_spread 16 = .ok (.istore 8, 2)))) (
   sndC (sd_iload (hd := (by decide +kernel : decode cX2_spread 18 = .ok (.iload 8, 2)))) (
   sndC (sd_iconst (hd := (by decide +kernel : decode cX2_spread 20 = .ok (.iconst 4, 1))) (hv := by decide)) (
   sndC (sd_cmp_ge (ht := by decide) (hd := (by decide +kernel : decode cX2_spread 21 = .ok (.if_icmp .ge 46, 3)))) (
   sndC (sd_aload_n (hi := rfl) (hd := (by decide +kernel : decode cX2_spread 24 = .ok (.aload_n 0, 1)))) (
   sndC (sd_iload_n (hi := rfl) (hd := (by decide +kernel : decode cX2_spread 25 = .ok (.iload_n 1, 1)))) (
   sndC (sd_aload_n (hi := rfl) (hd := (by decide +kernel : decode cX2_spread 26 = .ok (.aload_n 2, 1)))) (
   sndC (sd_iload_n (hi := rfl) (hd := (by decide +kernel : decode cX2_spread 27 = .ok (.iload_n 3, 1)))) (
   sndC (sd_iload (hd := (by decide +kernel : decode cX2_spread 28 = .ok (.iload 8, 2)))) (
   sndC (sd_iload (hd := (by decide +kernel : decode cX2_spread 33 = .ok (.iload 6, 2)))) (
   sndC (sd_iload (hd := (by decide +kernel : decode cX2_spread 35 = .ok (.iload 4, 2)))) (
   sndC (sd_if_eq (ht := by decide) (hd := (by decide +kernel : decode cX2_spread 40 = .ok (.ifCond .eq 21, 3)))) (
   sndC (sd_iload (hd := (by decide +kernel : decode cX2_spread 43 = .ok (.iload 7, 2)))) (
   sndC (sd_aload_n (hi := rfl) (hd := (by decide +kernel : decode cX2_spread 45 = .ok (.aload_n 0, 1)))) (
   sndC (sd_get (C := RX2) (T := TX2) (N := 5) (hc := rfl) (hin0 := iX2) (hk := by decide) (hlink := w_220) (hd := (by decide +kernel : decode cX2_spread 46 = .ok (.getfield 23, 3)))) (
   sndC (sd_iload_n (hi := rfl) (hd := (by decide +kernel : decode cX2_spread 49 = .ok (.iload_n 3, 1)))) (
   sndC (sd_iload (hd := (by decide +kernel : decode cX2_spread 50 = .ok (.iload 8, 2)))) (
   sndC (sd_iadd (hd := (by decide +kernel : decode cX2_spread 58 = .ok (.iadd, 1)))) (
   sndC (sd_istore (hd := (by decide +kernel : decode cX2_spread 59 = .ok (.istore 7, 2)))) (
   sndC (sd_iinc (hv := by decide) (hd := (by decide +kernel : decode cX2_spread 61 = .ok (.iinc 8 1, 3)))) (
   sndC (sd_goto (ht := by decide) (hd := (by decide +kernel : decode cX2_spread 64 = .ok (.goto (-46), 3)))) (
   sndC (sd_aload_n (hi := rfl) (hd := (by decide +kernel : decode cX2_spread 67 = .ok (.aload_n 0, 1)))) (
   sndC (sd_get (C := RX2) (T := TX2) (N := 5) (hc := rfl) (hin0 := iX2) (hk := by decide) (hlink := w_220) (hd := (by decide +kernel : decode cX2_spread 68 = .ok (.getfield 23, 3)))) (
   sndC (sd_iload_n (hi := rfl) (hd := (by decide +kernel : decode cX2_spread 71 = .ok (.iload_n 3, 1)))) (
   sndC (sd_iconst (hd := (by decide +kernel : decode cX2_spread 72 = .ok (.iconst 1, 1))) (hv := by decide)) (
   sndC (sd_iadd (hd := (by decide +kernel : decode cX2_spread 73 = .ok (.iadd, 1)))) (
   sndC (sd_iload (hd := (by decide +kernel : decode cX2_spread 74 = .ok (.iload 6, 2)))) (
   sndC (sd_iload (hd := (by decide +kernel : decode cX2_spread 79 = .ok (.iload 7, 2)))) (
   sndC (sd_iload (hd := (by decide +kernel : decode cX2_spread 84 = .ok (.iload 5, 2)))) (
   sndC (sd_iload (hd := (by decide +kernel : decode cX2_spread 86 = .ok (.iload 7, 2)))) (
   sndC (sd_aload_n (hi := rfl) (hd := (by decide +kernel : decode cX2_spread 88 = .ok (.aload_n 0, 1)))) (
   sndC (sd_get (C := RX2) (T := TX2) (N := 5) (hc := rfl) (hin0 := iX2) (hk := by decide) (hlink := w_219) (hd := (by decide +kernel : decode cX2_spread 89 = .ok (.getfield 20, 3)))) (
   sndC (sd_iload_n (hi := rfl) (hd := (by decide +kernel : decode cX2_spread 92 = .ok (.iload_n 3, 1)))) (
   sndC (sd_iconst (hd := (by decide +kernel : decode cX2_spread 93 = .ok (.iconst 1, 1))) (hv := by decide)) (
   sndC (sd_iadd (hd := (by decide +kernel : decode cX2_spread 94 = .ok (.iadd, 1)))) (
   sndC (sd_iload (hd := (by decide +kernel : decode cX2_spread 95 = .ok (.iload 6, 2)))) (
   sndC (sd_imul (hd := (by decide +kernel : decode cX2_spread 103 = .ok (.imul, 1)))) (
   sndC (sd_iadd (hd := (by decide +kernel : decode cX2_spread 104 = .ok (.iadd, 1)))) (
   sndC (sd_istore (hd := (by decide +kernel : decode cX2_spread 105 = .ok (.istore 5, 2)))) (
   sndC (sd_iinc (hv := by decide) (hd := (by decide +kernel : decode cX2_spread 107 = .ok (.iinc 6 1, 3)))) (
   sndC (sd_goto (ht := by decide) (hd := (by decide +kernel : decode cX2_spread 110 = .ok (.goto (-104), 3)))) (
   sndC (sd_iload (hd := (by decide +kernel : decode cX2_spread 113 = .ok (.iload 5, 2)))) (
   sndN))))))))))))))))))))))))))))))))))))))))))))))))))))⟩
theorem kX2_spread_30 : CallAt mX2_spread 30 1 mX2_spot 2 := ⟨by decide +kernel, ⟨_, (by decide +kernel : decode cX2_spread 30 = .ok (.invokestatic 52, 3)), w_734, w_735⟩⟩
theorem kX2_spread_37 : CallAt mX2_spread 37 0 mX2_isTold 5 := ⟨by decide +kernel, ⟨_, (by decide +kernel : decode cX2_spread 37 = .ok (.invokevirtual 106, 3)), w_837, w_839, w_31⟩⟩
theorem kX2_spread_52 : CallAt mX2_spread 52 1 mX2_spot 2 := ⟨by decide +kernel, ⟨_, (by decide +kernel : decode cX2_spread 52 = .ok (.invokestatic 52, 3)), w_734, w_735⟩⟩
theorem kX2_spread_55 : CallAt mX2_spread 55 1 mX5_at 2 := ⟨by decide +kernel, ⟨_, (by decide +kernel : decode cX2_spread 55 = .ok (.invokestatic 32, 3)), w_714, w_391⟩⟩
theorem kX2_spread_76 : CallAt mX2_spread 76 1 mX2_spot 2 := ⟨by decide +kernel, ⟨_, (by decide +kernel : decode cX2_spread 76 = .ok (.invokestatic 52, 3)), w_734, w_735⟩⟩
theorem kX2_spread_81 : CallAt mX2_spread 81 1 mX5_put 3 := ⟨by decide +kernel, ⟨_, (by decide +kernel : decode cX2_spread 81 = .ok (.invokestatic 44, 3)), w_722, w_432⟩⟩
theorem kX2_spread_97 : CallAt mX2_spread 97 1 mX2_spot 2 := ⟨by decide +kernel, ⟨_, (by decide +kernel : decode cX2_spread 97 = .ok (.invokestatic 52, 3)), w_734, w_735⟩⟩
theorem kX2_spread_100 : CallAt mX2_spread 100 1 mX5_at 2 := ⟨by decide +kernel, ⟨_, (by decide +kernel : decode cX2_spread 100 = .ok (.invokestatic 32, 3)), w_714, w_391⟩⟩

set_option maxRecDepth 20000 in
theorem GX4_init : Good mX4_init := ⟨by decide +kernel, List.mem_of_getElem? (i := 157) (by decide +kernel), inX4, ⟨by decide +kernel, by decide +kernel⟩, by decide, show ∀ q ∈ tX4_init, Snd mX4_init q.1 q.2 from
  sndC (sd_aload_n (hi := rfl) (hd := (by decide +kernel : decode cX4_init 0 = .ok (.aload_n 0, 1)))) (
   sndC (sd_objInit (hl := w_158) (hi0 := w_145) (hc0 := w_146) (hd := (by decide +kernel : decode cX4_init 1 = .ok (.invokespecial 3, 3)))) (
   sndC (sd_aload_n (hi := rfl) (hd := (by decide +kernel : decode cX4_init 4 = .ok (.aload_n 0, 1)))) (
   sndC (sd_sipush (hd := (by decide +kernel : decode cX4_init 5 = .ok (.sipush 161, 3))) (hv := by decide)) (
   sndC (sd_newI (hw0 := w_178) (hd := (by decide +kernel : decode cX4_init 8 = .ok (.newarray .int, 2)))) (
   sndC (sd_putAF (C := RX4) (T := TX4) (N := 6) (hc := rfl) (hin0 := iX4) (hk := by decide) (hlink := w_159) (ty0 := tyX4) (hty := tyX4_ok) (hnm := nmX4) (hfin := rfl) (hi2 := rfl) (hdecl := rfl) (hi := .inr ⟨_, rfl⟩) (hd := (by decide +kernel : decode cX4_init 10 = .ok (.putfield 9, 3)))) (
   sndC (sd_aload_n (hi := rfl) (hd := (by decide +kernel : decode cX4_init 13 = .ok (.aload_n 0, 1)))) (
   sndC (sd_sipush (hd := (by decide +kernel : decode cX4_init 14 = .ok (.sipush 161, 3))) (hv := by decide)) (
   sndC (sd_newI (hw0 := w_178) (hd := (by decide +kernel : decode cX4_init 17 = .ok (.newarray .int, 2)))) (
   sndC (sd_putAF (C := RX4) (T := TX4) (N := 6) (hc := rfl) (hin0 := iX4) (hk := by decide) (hlink := w_160) (ty0 := tyX4) (hty := tyX4_ok) (hnm := nmX4) (hfin := rfl) (hi2 := rfl) (hdecl := rfl) (hi := .inr ⟨_, rfl⟩) (hd := (by decide +kernel : decode cX4_init 19 = .ok (.putfield 15, 3)))) (
   sndC (sd_aload_n (hi := rfl) (hd := (by decide +kernel : decode cX4_init 22 = .ok (.aload_n 0, 1)))) (
   sndC (sd_sipush (hd := (by decide +kernel : decode cX4_init 23 = .ok (.sipush 160, 3))) (hv := by decide)) (
   sndC (sd_newI (hw0 := w_178) (hd := (by decide +kernel : decode cX4_init 26 = .ok (.newarray .int, 2)))) (
   sndC (sd_putAF (C := RX4) (T := TX4) (N := 6) (hc := rfl) (hin0 := iX4) (hk := by decide) (hlink := w_161) (ty0 := tyX4) (hty := tyX4_ok) (hnm := nmX4) (hfin := rfl) (hi2 := rfl) (hdecl := rfl) (hi := .inr ⟨_, rfl⟩) (hd := (by decide +kernel : decode cX4_init 28 = .ok (.putfield 18, 3)))) (
   sndC (sd_aload_n (hi := rfl) (hd := (by decide +kernel : decode cX4_init 31 = .ok (.aload_n 0, 1)))) (
   sndC (sd_iconst (hd := (by decide +kernel : decode cX4_init 32 = .ok (.iconst 3, 1))) (hv := by decide)) (
   sndC (sd_newI (hw0 := w_178) (hd := (by decide +kernel : decode cX4_init 33 = .ok (.newarray .int, 2)))) (
   sndC (sd_putAF (C := RX4) (T := TX4) (N := 6) (hc := rfl) (hin0 := iX4) (hk := by decide) (hlink := w_162) (ty0 := tyX4) (hty := tyX4_ok) (hnm := nmX4) (hfin := rfl) (hi2 := rfl) (hdecl := rfl) (hi := .inr ⟨_, rfl⟩) (hd := (by decide +kernel : decode cX4_init 35 = .ok (.putfield 23, 3)))) (
   sndN))))))))))))))))))⟩


set_option maxRecDepth 20000 in
theorem GX4_faultOf : Good mX4_faultOf := ⟨by decide +kernel, List.mem_of_getElem? (i := 382) (by decide +kernel), inX4, ⟨by decide +kernel, by decide +kernel⟩, by decide, show ∀ q ∈ tX4_faultOf, Snd mX4_faultOf q.1 q.2 from
  sndC (sd_aload_n (hi := rfl) (hd := (by decide +kernel : decode cX4_faultOf 0 = .ok (.aload_n 0, 1)))) (
   sndC (sd_aload_n (hi := rfl) (hd := (by decide +kernel : decode cX4_faultOf 1 = .ok (.aload_n 1, 1)))) (
   sndC (sd_iload_n (hi := rfl) (hd := (by decide +kernel : decode cX4_faultOf 2 = .ok (.iload_n 2, 1)))) (
   sndC (sd_aload_n (hi := rfl) (hd := (by decide +kernel : decode cX4_faultOf 6 = .ok (.aload_n 0, 1)))) (
   sndC (sd_iconst (hd := (by decide +kernel : decode cX4_faultOf 7 = .ok (.iconst 0, 1))) (hv := by decide)) (
   sndC (sd_putI (C := RX4) (T := TX4) (N := 6) (hc := rfl) (hin0 := iX4) (hk := by decide) (hlink := w_163) (ty0 := tyX4) (hty := tyX4_ok) (hnm := nmX4) (hfin := rfl) (hi := rfl) (hd := (by decide +kernel : decode cX4_faultOf 8 = .ok (.putfield 30, 3)))) (
   sndC (sd_aload_n (hi := rfl) (hd := (by decide +kernel : decode cX4_faultOf 11 = .ok (.aload_n 0, 1)))) (
   sndC (sd_iconst (hd := (by decide +kernel : decode cX4_faultOf 12 = .ok (.iconst 0, 1))) (hv := by decide)) (
   sndC (sd_putI (C := RX4) (T := TX4) (N := 6) (hc := rfl) (hin0 := iX4) (hk := by decide) (hlink := w_164) (ty0 := tyX4) (hty := tyX4_ok) (hnm := nmX4) (hfin := rfl) (hi := rfl) (hd := (by decide +kernel : decode cX4_faultOf 13 = .ok (.putfield 34, 3)))) (
   sndC (sd_aload_n (hi := rfl) (hd := (by decide +kernel : decode cX4_faultOf 16 = .ok (.aload_n 0, 1)))) (
   sndC (sd_iconst (hd := (by decide +kernel : decode cX4_faultOf 17 = .ok (.iconst 0, 1))) (hv := by decide)) (
   sndC (sd_bipush (hd := (by decide +kernel : decode cX4_faultOf 18 = .ok (.bipush (-7), 2))) (hv := by decide)) (
   sndC (sd_if_eq (ht := by decide) (hd := (by decide +kernel : decode cX4_faultOf 23 = .ok (.ifCond .eq 36, 3)))) (
   sndC (sd_aload_n (hi := rfl) (hd := (by decide +kernel : decode cX4_faultOf 26 = .ok (.aload_n 0, 1)))) (
   sndC (sd_iconst (hd := (by decide +kernel : decode cX4_faultOf 27 = .ok (.iconst 1, 1))) (hv := by decide)) (
   sndC (sd_bipush (hd := (by decide +kernel : decode cX4_faultOf 28 = .ok (.bipush (-8), 2))) (hv := by decide)) (
   sndC (sd_if_eq (ht := by decide) (hd := (by decide +kernel : decode cX4_faultOf 33 = .ok (.ifCond .eq 26, 3)))) (
   sndC (sd_aload_n (hi := rfl) (hd := (by decide +kernel : decode cX4_faultOf 36 = .ok (.aload_n 0, 1)))) (
   sndC (sd_iconst (hd := (by decide +kernel : decode cX4_faultOf 37 = .ok (.iconst 2, 1))) (hv := by decide)) (
   sndC (sd_bipush (hd := (by decide +kernel : decode cX4_faultOf 38 = .ok (.bipush (-9), 2))) (hv := by decide)) (
   sndC (sd_if_eq (ht := by decide) (hd := (by decide +kernel : decode cX4_faultOf 43 = .ok (.ifCond .eq 16, 3)))) (
   sndC (sd_aload_n (hi := rfl) (hd := (by decide +kernel : decode cX4_faultOf 46 = .ok (.aload_n 0, 1)))) (
   sndC (sd_bipush (hd := (by decide +kernel : decode cX4_faultOf 50 = .ok (.bipush (-22), 2))) (hv := by decide)) (
   sndC (sd_cmp_ne (ht := by decide) (hd := (by decide +kernel : decode cX4_faultOf 52 = .ok (.if_icmp .ne 7, 3)))) (
   sndC (sd_iconst (hd := (by decide +kernel : decode cX4_faultOf 55 = .ok (.iconst 1, 1))) (hv := by decide)) (
   sndC (sd_goto (ht := by decide) (hd := (by decide +kernel : decode cX4_faultOf 56 = .ok (.goto 4, 3)))) (
   sndC (sd_iconst (hd := (by decide +kernel : decode cX4_faultOf 59 = .ok (.iconst 0, 1))) (hv := by decide)) (
   sndC (sd_istore_n (hi := rfl) (hd := (by decide +kernel : decode cX4_faultOf 60 = .ok (.istore_n 3, 1)))) (
   sndC (sd_iload_n (hi := rfl) (hd := (by decide +kernel : decode cX4_faultOf 61 = .ok (.iload_n 3, 1)))) (
   sndC (sd_if_eq (ht := by decide) (hd := (by decide +kernel : decode cX4_faultOf 62 = .ok (.ifCond .eq 7, 3)))) (
   sndC (sd_iconst (hd := (by decide +kernel : decode cX4_faultOf 65 = .ok (.iconst (-1), 1))) (hv := by decide)) (
   sndC (sd_goto (ht := by decide) (hd := (by decide +kernel : decode cX4_faultOf 66 = .ok (.goto 14, 3)))) (
   sndC (sd_aload_n (hi := rfl) (hd := (by decide +kernel : decode cX4_faultOf 69 = .ok (.aload_n 0, 1)))) (
   sndC (sd_get (C := RX4) (T := TX4) (N := 6) (hc := rfl) (hin0 := iX4) (hk := by decide) (hlink := w_160) (hd := (by decide +kernel : decode cX4_faultOf 70 = .ok (.getfield 15, 3)))) (
   sndC (sd_aload_n (hi := rfl) (hd := (by decide +kernel : decode cX4_faultOf 73 = .ok (.aload_n 0, 1)))) (
   sndC (sd_get (C := RX4) (T := TX4) (N := 6) (hc := rfl) (hin0 := iX4) (hk := by decide) (hlink := w_163) (hd := (by decide +kernel : decode cX4_faultOf 74 = .ok (.getfield 30, 3)))) (
   sndN))))))))))))))))))))))))))))))))))))⟩
theorem kX4_faultOf_3 : CallAt mX4_faultOf 3 0 mX4_scan 2 := ⟨by decide +kernel, ⟨_, (by decide +kernel : decode cX4_faultOf 3 = .ok (.invokevirtual 26, 3)), w_383, w_385, w_0⟩⟩
theorem kX4_faultOf_20 : CallAt mX4_faultOf 20 0 mX4_readPart 2 := ⟨by decide +kernel, ⟨_, (by decide +kernel : decode cX4_faultOf 20 = .ok (.invokevirtual 39, 3)), w_434, w_436, w_1⟩⟩
theorem kX4_faultOf_30 : CallAt mX4_faultOf 30 0 mX4_readPart 2 := ⟨by decide +kernel, ⟨_, (by decide +kernel : decode cX4_faultOf 30 = .ok (.invokevirtual 39, 3)), w_434, w_436, w_1⟩⟩
theorem kX4_faultOf_40 : CallAt mX4_faultOf 40 0 mX4_readPart 2 := ⟨by decide +kernel, ⟨_, (by decide +kernel : decode cX4_faultOf 40 = .ok (.invokevirtual 39, 3)), w_434, w_436, w_1⟩⟩
theorem kX4_faultOf_47 : CallAt mX4_faultOf 47 0 mX4_sign 0 := ⟨by decide +kernel, ⟨_, (by decide +kernel : decode cX4_faultOf 47 = .ok (.invokevirtual 43, 3)), w_442, w_444, w_3⟩⟩
theorem kX4_faultOf_77 : CallAt mX4_faultOf 77 1 mX5_at 2 := ⟨by decide +kernel, ⟨_, (by decide +kernel : decode cX4_faultOf 77 = .ok (.invokestatic 47, 3)), w_390, w_391⟩⟩

set_option maxRecDepth 20000 in
theorem GX4_textRead : Good mX4_textRead := ⟨by decide +kernel, List.mem_of_getElem? (i := 475) (by decide +kernel), inX4, ⟨by decide +kernel, by decide +kernel⟩, by decide, show ∀ q ∈ tX4_textRead, Snd mX4_textRead q.1 q.2 from
  sndC (sd_new (C := RX8) (T := TX8) (N := 2) (hc := rfl) (hin0 := iX8) (ty0 := tyX8) (hty := tyX8_ok) (hcl := w_476) (hinst := w_477) (hini := w_132) (hfs := fsX8) (hft := fun _ => rfl) (hd := (by decide +kernel : decode cX4_textRead 0 = .ok (.new 21, 3)))) (
   sndC (sd_dup (hd := (by decide +kernel : decode cX4_textRead 3 = .ok (.dup, 1)))) (
   sndC (sd_aload_n (hi := rfl) (hd := (by decide +kernel : decode cX4_textRead 4 = .ok (.aload_n 0, 1)))) (
   sndC (sd_get (C := RX4) (T := TX4) (N := 6) (hc := rfl) (hin0 := iX4) (hk := by decide) (hlink := w_161) (hd := (by decide +kernel : decode cX4_textRead 5 = .ok (.getfield 18, 3)))) (
   sndC (sd_iconst (hd := (by decide +kernel : decode cX4_textRead 8 = .ok (.iconst 0, 1))) (hv := by decide)) (
   sndC (sd_aload_n (hi := rfl) (hd := (by decide +kernel : decode cX4_textRead 9 = .ok (.aload_n 0, 1)))) (
   sndC (sd_get (C := RX4) (T := TX4) (N := 6) (hc := rfl) (hin0 := iX4) (hk := by decide) (hlink := w_164) (hd := (by decide +kernel : decode cX4_textRead 10 = .ok (.getfield 34, 3)))) (
   sndC (sd_max (hl := w_478) (hs0 := w_479) (hi0 := w_133) (hc0 := w_480) (hd := (by decide +kernel : decode cX4_textRead 13 = .ok (.invokestatic 52, 3)))) (
   sndC (sd_aload_n (hi := rfl) (hd := (by decide +kernel : decode cX4_textRead 19 = .ok (.aload_n 0, 1)))) (
   sndC (sd_get (C := RX4) (T := TX4) (N := 6) (hc := rfl) (hin0 := iX4) (hk := by decide) (hlink := w_162) (hd := (by decide +kernel : decode cX4_textRead 20 = .ok (.getfield 23, 3)))) (
   sndC (sd_clone (hl := w_497) (hs0 := w_485) (hn0 := w_486) (hi0 := w_487) (hse := w_488) (hca := w_489) (hd := (by decide +kernel : decode cX4_textRead 23 = .ok (.invokevirtual 64, 3)))) (
   sndC (sd_castI (hl := w_498) (hd := (by decide +kernel : decode cX4_textRead 26 = .ok (.checkcast 65, 3)))) (
   sndN))))))))))))⟩
theorem kX4_textRead_16 : CallAt mX4_textRead 16 1 mJ7_copyOf_59c91 2 := ⟨by decide +kernel, ⟨_, (by decide +kernel : decode cX4_textRead 16 = .ok (.invokestatic 58, 3)), w_481, w_482⟩⟩
theorem kX4_textRead_29 : CallAt mX4_textRead 29 2 mX8_init 2 := ⟨by decide +kernel, ⟨_, (by decide +kernel : decode cX4_textRead 29 = .ok (.invokespecial 69, 3)), w_499, w_500, rfl, rfl⟩⟩

set_option maxRecDepth 20000 in
theorem GX4_scan : Good mX4_scan := ⟨by decide +kernel, List.mem_of_getElem? (i := 386) (by decide +kernel), inX4, ⟨by decide +kernel, by decide +kernel⟩, by decide, show ∀ q ∈ tX4_scan, Snd mX4_scan q.1 q.2 from
  sndC (sd_iconst (hd := (by decide +kernel : decode cX4_scan 0 = .ok (.iconst 0, 1))) (hv := by decide)) (
   sndC (sd_istore_n (hi := rfl) (hd := (by decide +kernel : decode cX4_scan 1 = .ok (.istore_n 3, 1)))) (
   sndC (sd_iconst (hd := (by decide +kernel : decode cX4_scan 2 = .ok (.iconst 0, 1))) (hv := by decide)) (
   sndC (sd_istore (hd := (by decide +kernel : decode cX4_scan 3 = .ok (.istore 4, 2)))) (
   sndC (sd_iload (hd := (by decide +kernel : decode cX4_scan 5 = .ok (.iload 4, 2)))) (
   sndC (sd_aload_n (hi := rfl) (hd := (by decide +kernel : decode cX4_scan 7 = .ok (.aload_n 0, 1)))) (
   sndC (sd_get (C := RX4) (T := TX4) (N := 6) (hc := rfl) (hin0 := iX4) (hk := by decide) (hlink := w_159) (hd := (by decide +kernel : decode cX4_scan 8 = .ok (.getfield 9, 3)))) (
   sndC (sd_len (hd := (by decide +kernel : decode cX4_scan 11 = .ok (.arraylength, 1)))) (
   sndC (sd_cmp_ge (ht := by decide) (hd := (by decide +kernel : decode cX4_scan 12 = .ok (.if_icmp .ge 82, 3)))) (
   sndC (sd_aload_n (hi := rfl) (hd := (by decide +kernel : decode cX4_scan 15 = .ok (.aload_n 1, 1)))) (
   sndC (sd_iload_n (hi := rfl) (hd := (by decide +kernel : decode cX4_scan 16 = .ok (.iload_n 2, 1)))) (
   sndC (sd_iload_n (hi := rfl) (hd := (by decide +kernel : decode cX4_scan 17 = .ok (.iload_n 3, 1)))) (
   sndC (sd_istore_n (hi := rfl) (hd := (by decide +kernel : decode cX4_scan 21 = .ok (.istore_n 3, 1)))) (
   sndC (sd_aload_n (hi := rfl) (hd := (by decide +kernel : decode cX4_scan 22 = .ok (.aload_n 1, 1)))) (
   sndC (sd_iload_n (hi := rfl) (hd := (by decide +kernel : decode cX4_scan 23 = .ok (.iload_n 2, 1)))) (
   sndC (sd_iload_n (hi := rfl) (hd := (by decide +kernel : decode cX4_scan 24 = .ok (.iload_n 3, 1)))) (
   sndC (sd_istore (hd := (by decide +kernel : decode cX4_scan 28 = .ok (.istore 5, 2)))) (
   sndC (sd_iload_n (hi := rfl) (hd := (by decide +kernel : decode cX4_scan 30 = .ok (.iload_n 3, 1)))) (
   sndC (sd_iload_n (hi := rfl) (hd := (by decide +kernel : decode cX4_scan 31 = .ok (.iload_n 2, 1)))) (
   sndC (sd_cmp_ge (ht := by decide) (hd := (by decide +kernel : decode cX4_scan 32 = .ok (.if_icmp .ge 13, 3)))) (
   sndC (sd_aload_n (hi := rfl) (hd := (by decide +kernel : decode cX4_scan 35 = .ok (.aload_n 1, 1)))) (
   sndC (sd_iload_n (hi := rfl) (hd := (by decide +kernel : decode cX4_scan 36 = .ok (.iload_n 3, 1)))) (
   sndC (sd_iload (hd := (by decide +kernel : decode cX4_scan 37 = .ok (.iload 5, 2)))) (
   sndC (sd_goto (ht := by decide) (hd := (by decide +kernel : decode cX4_scan 42 = .ok (.goto 5, 3)))) (
   sndC (sd_bipush (hd := (by decide +kernel : decode cX4_scan 45 = .ok (.bipush (-22), 2))) (hv := by decide)) (
   sndC (sd_istore (hd := (by decide +kernel : decode cX4_scan 47 = .ok (.istore 6, 2)))) (
   sndC (sd_aload_n (hi := rfl) (hd := (by decide +kernel : decode cX4_scan 49 = .ok (.aload_n 0, 1)))) (
   sndC (sd_get (C := RX4) (T := TX4) (N := 6) (hc := rfl) (hin0 := iX4) (hk := by decide) (hlink := w_159) (hd := (by decide +kernel : decode cX4_scan 50 = .ok (.getfield 9, 3)))) (
   sndC (sd_iload (hd := (by decide +kernel : decode cX4_scan 53 = .ok (.iload 4, 2)))) (
   sndC (sd_iload (hd := (by decide +kernel : decode cX4_scan 55 = .ok (.iload 6, 2)))) (
   sndC (sd_aload_n (hi := rfl) (hd := (by decide +kernel : decode cX4_scan 60 = .ok (.aload_n 0, 1)))) (
   sndC (sd_get (C := RX4) (T := TX4) (N := 6) (hc := rfl) (hin0 := iX4) (hk := by decide) (hlink := w_160) (hd := (by decide +kernel : decode cX4_scan 61 = .ok (.getfield 15, 3)))) (
   sndC (sd_iload (hd := (by decide +kernel : decode cX4_scan 64 = .ok (.iload 4, 2)))) (
   sndC (sd_iload_n (hi := rfl) (hd := (by decide +kernel : decode cX4_scan 66 = .ok (.iload_n 3, 1)))) (
   sndC (sd_iload (hd := (by decide +kernel : decode cX4_scan 70 = .ok (.iload 6, 2)))) (
   sndC (sd_bipush (hd := (by decide +kernel : decode cX4_scan 72 = .ok (.bipush (-22), 2))) (hv := by decide)) (
   sndC (sd_cmp_eq (ht := by decide) (hd := (by decide +kernel : decode cX4_scan 74 = .ok (.if_icmp .eq 10, 3)))) (
   sndC (sd_iload (hd := (by decide +kernel : decode cX4_scan 77 = .ok (.iload 6, 2)))) (
   sndC (sd_bipush (hd := (by decide +kernel : decode cX4_scan 79 = .ok (.bipush (-23), 2))) (hv := by decide)) (
   sndC (sd_cmp_ne (ht := by decide) (hd := (by decide +kernel : decode cX4_scan 81 = .ok (.if_icmp .ne 4, 3)))) (
   sndC (sd_iload (hd := (by decide +kernel : decode cX4_scan 85 = .ok (.iload 5, 2)))) (
   sndC (sd_istore_n (hi := rfl) (hd := (by decide +kernel : decode cX4_scan 87 = .ok (.istore_n 3, 1)))) (
   sndC (sd_iinc (hv := by decide) (hd := (by decide +kernel : decode cX4_scan 88 = .ok (.iinc 4 1, 3)))) (
   sndC (sd_goto (ht := by decide) (hd := (by decide +kernel : decode cX4_scan 91 = .ok (.goto (-86), 3)))) (
   sndN))))))))))))))))))))))))))))))))))))))))))))⟩
theorem kX4_scan_18 : CallAt mX4_scan 18 1 mX4_behindBlanks 3 := ⟨by decide +kernel, ⟨_, (by decide +kernel : decode cX4_scan 18 = .ok (.invokestatic 72, 3)), w_387, w_388⟩⟩
theorem kX4_scan_25 : CallAt mX4_scan 25 1 mX4_behindToken 3 := ⟨by decide +kernel, ⟨_, (by decide +kernel : decode cX4_scan 25 = .ok (.invokestatic 76, 3)), w_393, w_394⟩⟩
theorem kX4_scan_39 : CallAt mX4_scan 39 1 mX4_signBetween 3 := ⟨by decide +kernel, ⟨_, (by decide +kernel : decode cX4_scan 39 = .ok (.invokestatic 79, 3)), w_399, w_400⟩⟩
theorem kX4_scan_57 : CallAt mX4_scan 57 1 mX5_put 3 := ⟨by decide +kernel, ⟨_, (by decide +kernel : decode cX4_scan 57 = .ok (.invokestatic 82, 3)), w_431, w_432⟩⟩
theorem kX4_scan_67 : CallAt mX4_scan 67 1 mX5_put 3 := ⟨by decide +kernel, ⟨_, (by decide +kernel : decode cX4_scan 67 = .ok (.invokestatic 82, 3)), w_431, w_432⟩⟩

set_option maxRecDepth 20000 in
theorem GX4_behindBlanks : Good mX4_behindBlanks := ⟨by decide +kernel, List.mem_of_getElem? (i := 389) (by decide +kernel), inX4, ⟨by decide +kernel, by decide +kernel⟩, by decide, show ∀ q ∈ tX4_behindBlanks, Snd mX4_behindBlanks q.1 q.2 from
  sndC (sd_iload_n (hi := rfl) (hd := (by decide +kernel : decode cX4_behindBlanks 0 = .ok (.iload_n 2, 1)))) (
   sndC (sd_istore_n (hi := rfl) (hd := (by decide +kernel : decode cX4_behindBlanks 1 = .ok (.istore_n 3, 1)))) (
   sndC (sd_iload_n (hi := rfl) (hd := (by decide +kernel : decode cX4_behindBlanks 2 = .ok (.iload_n 3, 1)))) (
   sndC (sd_iload_n (hi := rfl) (hd := (by decide +kernel : decode cX4_behindBlanks 3 = .ok (.iload_n 1, 1)))) (
   sndC (sd_cmp_ge (ht := by decide) (hd := (by decide +kernel : decode cX4_behindBlanks 4 = .ok (.if_icmp .ge 29, 3)))) (
   sndC (sd_aload_n (hi := rfl) (hd := (by decide +kernel : decode cX4_behindBlanks 7 = .ok (.aload_n 0, 1)))) (
   sndC (sd_iload_n (hi := rfl) (hd := (by decide +kernel : decode cX4_behindBlanks 8 = .ok (.iload_n 3, 1)))) (
   sndC (sd_bipush (hd := (by decide +kernel : decode cX4_behindBlanks 12 = .ok (.bipush 32, 2))) (hv := by decide)) (
   sndC (sd_cmp_eq (ht := by decide) (hd := (by decide +kernel : decode cX4_behindBlanks 14 = .ok (.if_icmp .eq 13, 3)))) (
   sndC (sd_aload_n (hi := rfl) (hd := (by decide +kernel : decode cX4_behindBlanks 17 = .ok (.aload_n 0, 1)))) (
   sndC (sd_iload_n (hi := rfl) (hd := (by decide +kernel : decode cX4_behindBlanks 18 = .ok (.iload_n 3, 1)))) (
   sndC (sd_bipush (hd := (by decide +kernel : decode cX4_behindBlanks 22 = .ok (.bipush 10, 2))) (hv := by decide)) (
   sndC (sd_cmp_ne (ht := by decide) (hd := (by decide +kernel : decode cX4_behindBlanks 24 = .ok (.if_icmp .ne 9, 3)))) (
   sndC (sd_iinc (hv := by decide) (hd := (by decide +kernel : decode cX4_behindBlanks 27 = .ok (.iinc 3 1, 3)))) (
   sndC (sd_goto (ht := by decide) (hd := (by decide +kernel : decode cX4_behindBlanks 30 = .ok (.goto (-28), 3)))) (
   sndC (sd_iload_n (hi := rfl) (hd := (by decide +kernel : decode cX4_behindBlanks 33 = .ok (.iload_n 3, 1)))) (
   sndN))))))))))))))))⟩
theorem kX4_behindBlanks_9 : CallAt mX4_behindBlanks 9 1 mX5_at 2 := ⟨by decide +kernel, ⟨_, (by decide +kernel : decode cX4_behindBlanks 9 = .ok (.invokestatic 47, 3)), w_390, w_391⟩⟩
theorem kX4_behindBlanks_19 : CallAt mX4_behindBlanks 19 1 mX5_at 2 := ⟨by decide +kernel, ⟨_, (by decide +kernel : decode cX4_behindBlanks 19 = .ok (.invokestatic 47, 3)), w_390, w_391⟩⟩

set_option maxRecDepth 20000 in
theorem GX4_behindToken : Good mX4_behindToken := ⟨by decide +kernel, List.mem_of_getElem? (i := 395) (by decide +kernel), inX4, ⟨by decide +kernel, by decide +kernel⟩, by decide, show ∀ q ∈ tX4_behindToken, Snd mX4_behindToken q.1 q.2 from
  sndC (sd_aload_n (hi := rfl) (hd := (by decide +kernel : decode cX4_behindToken 0 = .ok (.aload_n 0, 1)))) (
   sndC (sd_iload_n (hi := rfl) (hd := (by decide +kernel : decode cX4_behindToken 1 = .ok (.iload_n 2, 1)))) (
   sndC (sd_istore_n (hi := rfl) (hd := (by decide +kernel : decode cX4_behindToken 8 = .ok (.istore_n 3, 1)))) (
   sndC (sd_iload_n (hi := rfl) (hd := (by decide +kernel : decode cX4_behindToken 9 = .ok (.iload_n 2, 1)))) (
   sndC (sd_iconst (hd := (by decide +kernel : decode cX4_behindToken 10 = .ok (.iconst 1, 1))) (hv := by decide)) (
   sndC (sd_iadd (hd := (by decide +kernel : decode cX4_behindToken 11 = .ok (.iadd, 1)))) (
   sndC (sd_istore (hd := (by decide +kernel : decode cX4_behindToken 12 = .ok (.istore 4, 2)))) (
   sndC (sd_iload_n (hi := rfl) (hd := (by decide +kernel : decode cX4_behindToken 14 = .ok (.iload_n 3, 1)))) (
   sndC (sd_iconst (hd := (by decide +kernel : decode cX4_behindToken 15 = .ok (.iconst 3, 1))) (hv := by decide)) (
   sndC (sd_cmp_eq (ht := by decide) (hd := (by decide +kernel : decode cX4_behindToken 16 = .ok (.if_icmp .eq 28, 3)))) (
   sndC (sd_iload (hd := (by decide +kernel : decode cX4_behindToken 19 = .ok (.iload 4, 2)))) (
   sndC (sd_iload_n (hi := rfl) (hd := (by decide +kernel : decode cX4_behindToken 21 = .ok (.iload_n 1, 1)))) (
   sndC (sd_cmp_ge (ht := by decide) (hd := (by decide +kernel : decode cX4_behindToken 22 = .ok (.if_icmp .ge 22, 3)))) (
   sndC (sd_aload_n (hi := rfl) (hd := (by decide +kernel : decode cX4_behindToken 25 = .ok (.aload_n 0, 1)))) (
   sndC (sd_iload (hd := (by decide +kernel : decode cX4_behindToken 26 = .ok (.iload 4, 2)))) (
   sndC (sd_iload_n (hi := rfl) (hd := (by decide +kernel : decode cX4_behindToken 34 = .ok (.iload_n 3, 1)))) (
   sndC (sd_cmp_ne (ht := by decide) (hd := (by decide +kernel : decode cX4_behindToken 35 = .ok (.if_icmp .ne 9, 3)))) (
   sndC (sd_iinc (hv := by decide) (hd := (by decide +kernel : decode cX4_behindToken 38 = .ok (.iinc 4 1, 3)))) (
   sndC (sd_goto (ht := by decide) (hd := (by decide +kernel : decode cX4_behindToken 41 = .ok (.goto (-27), 3)))) (
   sndC (sd_iload (hd := (by decide +kernel : decode cX4_behindToken 44 = .ok (.iload 4, 2)))) (
   sndN))))))))))))))))))))⟩
theorem kX4_behindToken_2 : CallAt mX4_behindToken 2 1 mX5_at 2 := ⟨by decide +kernel, ⟨_, (by decide +kernel : decode cX4_behindToken 2 = .ok (.invokestatic 47, 3)), w_390, w_391⟩⟩
theorem kX4_behindToken_5 : CallAt mX4_behindToken 5 1 mX4_sortOf 1 := ⟨by decide +kernel, ⟨_, (by decide +kernel : decode cX4_behindToken 5 = .ok (.invokestatic 86, 3)), w_396, w_397⟩⟩
theorem kX4_behindToken_28 : CallAt mX4_behindToken 28 1 mX5_at 2 := ⟨by decide +kernel, ⟨_, (by decide +kernel : decode cX4_behindToken 28 = .ok (.invokestatic 47, 3)), w_390, w_391⟩⟩
theorem kX4_behindToken_31 : CallAt mX4_behindToken 31 1 mX4_sortOf 1 := ⟨by decide +kernel, ⟨_, (by decide +kernel : decode cX4_behindToken 31 = .ok (.invokestatic 86, 3)), w_396, w_397⟩⟩

set_option maxRecDepth 20000 in
theorem GX4_sortOf : Good mX4_sortOf := ⟨by decide +kernel, List.mem_of_getElem? (i := 398) (by decide +kernel), inX4, ⟨by decide +kernel, by decide +kernel⟩, by decide, show ∀ q ∈ tX4_sortOf, Snd mX4_sortOf q.1 q.2 from
  sndC (sd_iload_n (hi := rfl) (hd := (by decide +kernel : decode cX4_sortOf 0 = .ok (.iload_n 0, 1)))) (
   sndC (sd_bipush (hd := (by decide +kernel : decode cX4_sortOf 1 = .ok (.bipush 97, 2))) (hv := by decide)) (
   sndC (sd_cmp_lt (ht := by decide) (hd := (by decide +kernel : decode cX4_sortOf 3 = .ok (.if_icmp .lt 13, 3)))) (
   sndC (sd_iload_n (hi := rfl) (hd := (by decide +kernel : decode cX4_sortOf 6 = .ok (.iload_n 0, 1)))) (
   sndC (sd_bipush (hd := (by decide +kernel : decode cX4_sortOf 7 = .ok (.bipush 122, 2))) (hv := by decide)) (
   sndC (sd_cmp_gt (ht := by decide) (hd := (by decide +kernel : decode cX4_sortOf 9 = .ok (.if_icmp .gt 7, 3)))) (
   sndC (sd_iconst (hd := (by decide +kernel : decode cX4_sortOf 12 = .ok (.iconst 1, 1))) (hv := by decide)) (
   sndC (sd_goto (ht := by decide) (hd := (by decide +kernel : decode cX4_sortOf 13 = .ok (.goto 20, 3)))) (
   sndC (sd_iload_n (hi := rfl) (hd := (by decide +kernel : decode cX4_sortOf 16 = .ok (.iload_n 0, 1)))) (
   sndC (sd_bipush (hd := (by decide +kernel : decode cX4_sortOf 17 = .ok (.bipush 48, 2))) (hv := by decide)) (
   sndC (sd_cmp_lt (ht := by decide) (hd := (by decide +kernel : decode cX4_sortOf 19 = .ok (.if_icmp .lt 13, 3)))) (
   sndC (sd_iload_n (hi := rfl) (hd := (by decide +kernel : decode cX4_sortOf 22 = .ok (.iload_n 0, 1)))) (
   sndC (sd_bipush (hd := (by decide +kernel : decode cX4_sortOf 23 = .ok (.bipush 57, 2))) (hv := by decide)) (
   sndC (sd_cmp_gt (ht := by decide) (hd := (by decide +kernel : decode cX4_sortOf 25 = .ok (.if_icmp .gt 7, 3)))) (
   sndC (sd_iconst (hd := (by decide +kernel : decode cX4_sortOf 28 = .ok (.iconst 2, 1))) (hv := by decide)) (
   sndC (sd_goto (ht := by decide) (hd := (by decide +kernel : decode cX4_sortOf 29 = .ok (.goto 4, 3)))) (
   sndC (sd_iconst (hd := (by decide +kernel : decode cX4_sortOf 32 = .ok (.iconst 3, 1))) (hv := by decide)) (
   sndN)))))))))))))))))⟩


set_option maxRecDepth 20000 in
theorem GX4_signBetween : Good mX4_signBetween := ⟨by decide +kernel, List.mem_of_getElem? (i := 401) (by decide +kernel), inX4, ⟨by decide +kernel, by decide +kernel⟩, by decide, show ∀ q ∈ tX4_signBetween, Snd mX4_signBetween q.1 q.2 from
  sndC (sd_aload_n (hi := rfl) (hd := (by decide +kernel : decode cX4_signBetween 0 = .ok (.aload_n 0, 1)))) (
   sndC (sd_iload_n (hi := rfl) (hd := (by decide +kernel : decode cX4_signBetween 1 = .ok (.iload_n 1, 1)))) (
   sndC (sd_istore_n (hi := rfl) (hd := (by decide +kernel : decode cX4_signBetween 5 = .ok (.istore_n 3, 1)))) (
   sndC (sd_iload_n (hi := rfl) (hd := (by decide +kernel : decode cX4_signBetween 6 = .ok (.iload_n 3, 1)))) (
   sndC (sd_lsw (hd := (by decide +kernel : decode cX4_signBetween 10 = .ok (.lookupswitch 40 #[(1, 26), (2, 33)], 26))) (hp := by decide +kernel) (ho := lsw10)) (
   sndC (sd_aload_n (hi := rfl) (hd := (by decide +kernel : decode cX4_signBetween 36 = .ok (.aload_n 0, 1)))) (
   sndC (sd_iload_n (hi := rfl) (hd := (by decide +kernel : decode cX4_signBetween 37 = .ok (.iload_n 1, 1)))) (
   sndC (sd_iload_n (hi := rfl) (hd := (by decide +kernel : decode cX4_signBetween 38 = .ok (.iload_n 2, 1)))) (
   sndC (sd_aload_n (hi := rfl) (hd := (by decide +kernel : decode cX4_signBetween 43 = .ok (.aload_n 0, 1)))) (
   sndC (sd_iload_n (hi := rfl) (hd := (by decide +kernel : decode cX4_signBetween 44 = .ok (.iload_n 1, 1)))) (
   sndC (sd_iload_n (hi := rfl) (hd := (by decide +kernel : decode cX4_signBetween 45 = .ok (.iload_n 2, 1)))) (
   sndC (sd_iload_n (hi := rfl) (hd := (by decide +kernel : decode cX4_signBetween 50 = .ok (.iload_n 3, 1)))) (
   sndN))))))))))))⟩
theorem kX4_signBetween_2 : CallAt mX4_signBetween 2 1 mX5_at 2 := ⟨by decide +kernel, ⟨_, (by decide +kernel : decode cX4_signBetween 2 = .ok (.invokestatic 47, 3)), w_390, w_391⟩⟩
theorem kX4_signBetween_7 : CallAt mX4_signBetween 7 1 mX4_sortOf 1 := ⟨by decide +kernel, ⟨_, (by decide +kernel : decode cX4_signBetween 7 = .ok (.invokestatic 86, 3)), w_396, w_397⟩⟩
theorem kX4_signBetween_39 : CallAt mX4_signBetween 39 1 mX4_wordBetween 3 := ⟨by decide +kernel, ⟨_, (by decide +kernel : decode cX4_signBetween 39 = .ok (.invokestatic 90, 3)), w_402, w_403⟩⟩
theorem kX4_signBetween_46 : CallAt mX4_signBetween 46 1 mX4_numberBetween 3 := ⟨by decide +kernel, ⟨_, (by decide +kernel : decode cX4_signBetween 46 = .ok (.invokestatic 93, 3)), w_425, w_426⟩⟩
theorem kX4_signBetween_51 : CallAt mX4_signBetween 51 1 mX7_ofByte 1 := ⟨by decide +kernel, ⟨_, (by decide +kernel : decode cX4_signBetween 51 = .ok (.invokestatic 96, 3)), w_428, w_429⟩⟩

set_option maxRecDepth 20000 in
theorem GX4_numberBetween : Good mX4_numberBetween := ⟨by decide +kernel, List.mem_of_getElem? (i := 427) (by decide +kernel), inX4, ⟨by decide +kernel, by decide +kernel⟩, by decide, show ∀ q ∈ tX4_numberBetween, Snd mX4_numberBetween q.1 q.2 from
  sndC (sd_iload_n (hi := rfl) (hd := (by decide +kernel : decode cX4_numberBetween 0 = .ok (.iload_n 2, 1)))) (
   sndC (sd_iload_n (hi := rfl) (hd := (by decide +kernel : decode cX4_numberBetween 1 = .ok (.iload_n 1, 1)))) (
   sndC (sd_isub (hd := (by decide +kernel : decode cX4_numberBetween 2 = .ok (.isub, 1)))) (
   sndC (sd_iconst (hd := (by decide +kernel : decode cX4_numberBetween 3 = .ok (.iconst 4, 1))) (hv := by decide)) (
   sndC (sd_cmp_le (ht := by decide) (hd := (by decide +kernel : decode cX4_numberBetween 4 = .ok (.if_icmp .le 6, 3)))) (
   sndC (sd_bipush (hd := (by decide +kernel : decode cX4_numberBetween 7 = .ok (.bipush (-23), 2))) (hv := by decide)) (
   sndC (sd_iconst (hd := (by decide +kernel : decode cX4_numberBetween 10 = .ok (.iconst 0, 1))) (hv := by decide)) (
   sndC (sd_istore_n (hi := rfl) (hd := (by decide +kernel : decode cX4_numberBetween 11 = .ok (.istore_n 3, 1)))) (
   sndC (sd_iload_n (hi := rfl) (hd := (by decide +kernel : decode cX4_numberBetween 12 = .ok (.iload_n 1, 1)))) (
   sndC (sd_istore (hd := (by decide +kernel : decode cX4_numberBetween 13 = .ok (.istore 4, 2)))) (
   sndC (sd_iload (hd := (by decide +kernel : decode cX4_numberBetween 15 = .ok (.iload 4, 2)))) (
   sndC (sd_iload_n (hi := rfl) (hd := (by decide +kernel : decode cX4_numberBetween 17 = .ok (.iload_n 2, 1)))) (
   sndC (sd_cmp_ge (ht := by decide) (hd := (by decide +kernel : decode cX4_numberBetween 18 = .ok (.if_icmp .ge 24, 3)))) (
   sndC (sd_iload_n (hi := rfl) (hd := (by decide +kernel : decode cX4_numberBetween 21 = .ok (.iload_n 3, 1)))) (
   sndC (sd_bipush (hd := (by decide +kernel : decode cX4_numberBetween 22 = .ok (.bipush 10, 2))) (hv := by decide)) (
   sndC (sd_imul (hd := (by decide +kernel : decode cX4_numberBetween 24 = .ok (.imul, 1)))) (
   sndC (sd_aload_n (hi := rfl) (hd := (by decide +kernel : decode cX4_numberBetween 25 = .ok (.aload_n 0, 1)))) (
   sndC (sd_iload (hd := (by decide +kernel : decode cX4_numberBetween 26 = .ok (.iload 4, 2)))) (
   sndC (sd_iadd (hd := (by decide +kernel : decode cX4_numberBetween 31 = .ok (.iadd, 1)))) (
   sndC (sd_bipush (hd := (by decide +kernel : decode cX4_numberBetween 32 = .ok (.bipush 48, 2))) (hv := by decide)) (
   sndC (sd_isub (hd := (by decide +kernel : decode cX4_numberBetween 34 = .ok (.isub, 1)))) (
   sndC (sd_istore_n (hi := rfl) (hd := (by decide +kernel : decode cX4_numberBetween 35 = .ok (.istore_n 3, 1)))) (
   sndC (sd_iinc (hv := by decide) (hd := (by decide +kernel : decode cX4_numberBetween 36 = .ok (.iinc 4 1, 3)))) (
   sndC (sd_goto (ht := by decide) (hd := (by decide +kernel : decode cX4_numberBetween 39 = .ok (.goto (-24), 3)))) (
   sndC (sd_iload_n (hi := rfl) (hd := (by decide +kernel : decode cX4_numberBetween 42 = .ok (.iload_n 3, 1)))) (
   sndN)))))))))))))))))))))))))⟩
theorem kX4_numberBetween_28 : CallAt mX4_numberBetween 28 1 mX5_at 2 := ⟨by decide +kernel, ⟨_, (by decide +kernel : decode cX4_numberBetween 28 = .ok (.invokestatic 47, 3)), w_390, w_391⟩⟩

set_option maxRecDepth 20000 in
theorem GX4_wordBetween : Good mX4_wordBetween := ⟨by decide +kernel, List.mem_of_getElem? (i := 404) (by decide +kernel), inX4, ⟨by decide +kernel, by decide +kernel⟩, by decide, show ∀ q ∈ tX4_wordBetween, Snd mX4_wordBetween q.1 q.2 from
  sndC (sd_aload_n (hi := rfl) (hd := (by decide +kernel : decode cX4_wordBetween 0 = .ok (.aload_n 0, 1)))) (
   sndC (sd_iload_n (hi := rfl) (hd := (by decide +kernel : decode cX4_wordBetween 1 = .ok (.iload_n 1, 1)))) (
   sndC (sd_iload_n (hi := rfl) (hd := (by decide +kernel : decode cX4_wordBetween 2 = .ok (.iload_n 2, 1)))) (
   sndC (sd_istore_n (hi := rfl) (hd := (by decide +kernel : decode cX4_wordBetween 6 = .ok (.istore_n 3, 1)))) (
   sndC (sd_iload_n (hi := rfl) (hd := (by decide +kernel : decode cX4_wordBetween 7 = .ok (.iload_n 3, 1)))) (
   sndC (sd_bipush (hd := (by decide +kernel : decode cX4_wordBetween 8 = .ok (.bipush (-23), 2))) (hv := by decide)) (
   sndC (sd_cmp_eq (ht := by decide) (hd := (by decide +kernel : decode cX4_wordBetween 10 = .ok (.if_icmp .eq 7, 3)))) (
   sndC (sd_iload_n (hi := rfl) (hd := (by decide +kernel : decode cX4_wordBetween 13 = .ok (.iload_n 3, 1)))) (
   sndC (sd_goto (ht := by decide) (hd := (by decide +kernel : decode cX4_wordBetween 14 = .ok (.goto 101, 3)))) (
   sndC (sd_ldcS (i := 7) (hi := rfl) (hd := (by decide +kernel : decode cX4_wordBetween 17 = .ok (.ldc 102, 2)))) (
   sndC (sd_aload_n (hi := rfl) (hd := (by decide +kernel : decode cX4_wordBetween 19 = .ok (.aload_n 0, 1)))) (
   sndC (sd_iload_n (hi := rfl) (hd := (by decide +kernel : decode cX4_wordBetween 20 = .ok (.iload_n 1, 1)))) (
   sndC (sd_iload_n (hi := rfl) (hd := (by decide +kernel : decode cX4_wordBetween 21 = .ok (.iload_n 2, 1)))) (
   sndC (sd_if_eq (ht := by decide) (hd := (by decide +kernel : decode cX4_wordBetween 25 = .ok (.ifCond .eq 8, 3)))) (
   sndC (sd_bipush (hd := (by decide +kernel : decode cX4_wordBetween 28 = .ok (.bipush (-7), 2))) (hv := by decide)) (
   sndC (sd_goto (ht := by decide) (hd := (by decide +kernel : decode cX4_wordBetween 30 = .ok (.goto 85, 3)))) (
   sndC (sd_ldcS (i := 8) (hi := rfl) (hd := (by decide +kernel : decode cX4_wordBetween 33 = .ok (.ldc 108, 2)))) (
   sndC (sd_aload_n (hi := rfl) (hd := (by decide +kernel : decode cX4_wordBetween 35 = .ok (.aload_n 0, 1)))) (
   sndC (sd_iload_n (hi := rfl) (hd := (by decide +kernel : decode cX4_wordBetween 36 = .ok (.iload_n 1, 1)))) (
   sndC (sd_iload_n (hi := rfl) (hd := (by decide +kernel : decode cX4_wordBetween 37 = .ok (.iload_n 2, 1)))) (
   sndC (sd_if_eq (ht := by decide) (hd := (by decide +kernel : decode cX4_wordBetween 41 = .ok (.ifCond .eq 8, 3)))) (
   sndC (sd_bipush (hd := (by decide +kernel : decode cX4_wordBetween 44 = .ok (.bipush (-8), 2))) (hv := by decide)) (
   sndC (sd_goto (ht := by decide) (hd := (by decide +kernel : decode cX4_wordBetween 46 = .ok (.goto 69, 3)))) (
   sndC (sd_ldcS (i := 9) (hi := rfl) (hd := (by decide +kernel : decode cX4_wordBetween 49 = .ok (.ldc 110, 2)))) (
   sndC (sd_aload_n (hi := rfl) (hd := (by decide +kernel : decode cX4_wordBetween 51 = .ok (.aload_n 0, 1)))) (
   sndC (sd_iload_n (hi := rfl) (hd := (by decide +kernel : decode cX4_wordBetween 52 = .ok (.iload_n 1, 1)))) (
   sndC (sd_iload_n (hi := rfl) (hd := (by decide +kernel : decode cX4_wordBetween 53 = .ok (.iload_n 2, 1)))) (
   sndC (sd_if_eq (ht := by decide) (hd := (by decide +kernel : decode cX4_wordBetween 57 = .ok (.ifCond .eq 8, 3)))) (
   sndC (sd_bipush (hd := (by decide +kernel : decode cX4_wordBetween 60 = .ok (.bipush (-9), 2))) (hv := by decide)) (
   sndC (sd_goto (ht := by decide) (hd := (by decide +kernel : decode cX4_wordBetween 62 = .ok (.goto 53, 3)))) (
   sndC (sd_ldcS (i := 10) (hi := rfl) (hd := (by decide +kernel : decode cX4_wordBetween 65 = .ok (.ldc 112, 2)))) (
   sndC (sd_aload_n (hi := rfl) (hd := (by decide +kernel : decode cX4_wordBetween 67 = .ok (.aload_n 0, 1)))) (
   sndC (sd_iload_n (hi := rfl) (hd := (by decide +kernel : decode cX4_wordBetween 68 = .ok (.iload_n 1, 1)))) (
   sndC (sd_iload_n (hi := rfl) (hd := (by decide +kernel : decode cX4_wordBetween 69 = .ok (.iload_n 2, 1)))) (
   sndC (sd_if_eq (ht := by decide) (hd := (by decide +kernel : decode cX4_wordBetween 73 = .ok (.ifCond .eq 8, 3)))) (
   sndC (sd_bipush (hd := (by decide +kernel : decode cX4_wordBetween 76 = .ok (.bipush (-10), 2))) (hv := by decide)) (
   sndC (sd_goto (ht := by decide) (hd := (by decide +kernel : decode cX4_wordBetween 78 = .ok (.goto 37, 3)))) (
   sndC (sd_ldcS (i := 11) (hi := rfl) (hd := (by decide +kernel : decode cX4_wordBetween 81 = .ok (.ldc 114, 2)))) (
   sndC (sd_aload_n (hi := rfl) (hd := (by decide +kernel : decode cX4_wordBetween 83 = .ok (.aload_n 0, 1)))) (
   sndC (sd_iload_n (hi := rfl) (hd := (by decide +kernel : decode cX4_wordBetween 84 = .ok (.iload_n 1, 1)))) (
   sndC (sd_iload_n (hi := rfl) (hd := (by decide +kernel : decode cX4_wordBetween 85 = .ok (.iload_n 2, 1)))) (
   sndC (sd_if_eq (ht := by decide) (hd := (by decide +kernel : decode cX4_wordBetween 89 = .ok (.ifCond .eq 8, 3)))) (
   sndC (sd_bipush (hd := (by decide +kernel : decode cX4_wordBetween 92 = .ok (.bipush (-11), 2))) (hv := by decide)) (
   sndC (sd_goto (ht := by decide) (hd := (by decide +kernel : decode cX4_wordBetween 94 = .ok (.goto 21, 3)))) (
   sndC (sd_ldcS (i := 12) (hi := rfl) (hd := (by decide +kernel : decode cX4_wordBetween 97 = .ok (.ldc 116, 2)))) (
   sndC (sd_aload_n (hi := rfl) (hd := (by decide +kernel : decode cX4_wordBetween 99 = .ok (.aload_n 0, 1)))) (
   sndC (sd_iload_n (hi := rfl) (hd := (by decide +kernel : decode cX4_wordBetween 100 = .ok (.iload_n 1, 1)))) (
   sndC (sd_iload_n (hi := rfl) (hd := (by decide +kernel : decode cX4_wordBetween 101 = .ok (.iload_n 2, 1)))) (
   sndC (sd_if_eq (ht := by decide) (hd := (by decide +kernel : decode cX4_wordBetween 105 = .ok (.ifCond .eq 8, 3)))) (
   sndC (sd_bipush (hd := (by decide +kernel : decode cX4_wordBetween 108 = .ok (.bipush (-12), 2))) (hv := by decide)) (
   sndC (sd_goto (ht := by decide) (hd := (by decide +kernel : decode cX4_wordBetween 110 = .ok (.goto 5, 3)))) (
   sndC (sd_bipush (hd := (by decide +kernel : decode cX4_wordBetween 113 = .ok (.bipush (-23), 2))) (hv := by decide)) (
   sndN))))))))))))))))))))))))))))))))))))))))))))))))))))⟩
theorem kX4_wordBetween_3 : CallAt mX4_wordBetween 3 1 mX4_nameBetween 3 := ⟨by decide +kernel, ⟨_, (by decide +kernel : decode cX4_wordBetween 3 = .ok (.invokestatic 99, 3)), w_405, w_406⟩⟩
theorem kX4_wordBetween_22 : CallAt mX4_wordBetween 22 1 mX4_stands 4 := ⟨by decide +kernel, ⟨_, (by decide +kernel : decode cX4_wordBetween 22 = .ok (.invokestatic 104, 3)), w_409, w_410⟩⟩
theorem kX4_wordBetween_38 : CallAt mX4_wordBetween 38 1 mX4_stands 4 := ⟨by decide +kernel, ⟨_, (by decide +kernel : decode cX4_wordBetween 38 = .ok (.invokestatic 104, 3)), w_409, w_410⟩⟩
theorem kX4_wordBetween_54 : CallAt mX4_wordBetween 54 1 mX4_stands 4 := ⟨by decide +kernel, ⟨_, (by decide +kernel : decode cX4_wordBetween 54 = .ok (.invokestatic 104, 3)), w_409, w_410⟩⟩
theorem kX4_wordBetween_70 : CallAt mX4_wordBetween 70 1 mX4_stands 4 := ⟨by decide +kernel, ⟨_, (by decide +kernel : decode cX4_wordBetween 70 = .ok (.invokestatic 104, 3)), w_409, w_410⟩⟩
theorem kX4_wordBetween_86 : CallAt mX4_wordBetween 86 1 mX4_stands 4 := ⟨by decide +kernel, ⟨_, (by decide +kernel : decode cX4_wordBetween 86 = .ok (.invokestatic 104, 3)), w_409, w_410⟩⟩
theorem kX4_wordBetween_102 : CallAt mX4_wordBetween 102 1 mX4_stands 4 := ⟨by decide +kernel, ⟨_, (by decide +kernel : decode cX4_wordBetween 102 = .ok (.invokestatic 104, 3)), w_409, w_410⟩⟩

set_option maxRecDepth 20000 in
theorem GX4_nameBetween : Good mX4_nameBetween := ⟨by decide +kernel, List.mem_of_getElem? (i := 407) (by decide +kernel), inX4, ⟨by decide +kernel, by decide +kernel⟩, by decide, show ∀ q ∈ tX4_nameBetween, Snd mX4_nameBetween q.1 q.2 from
  sndC (sd_ldcS (i := 1) (hi := rfl) (hd := (by decide +kernel : decode cX4_nameBetween 0 = .ok (.ldc 118, 2)))) (
   sndC (sd_aload_n (hi := rfl) (hd := (by decide +kernel : decode cX4_nameBetween 2 = .ok (.aload_n 0, 1)))) (
   sndC (sd_iload_n (hi := rfl) (hd := (by decide +kernel : decode cX4_nameBetween 3 = .ok (.iload_n 1, 1)))) (
   sndC (sd_iload_n (hi := rfl) (hd := (by decide +kernel : decode cX4_nameBetween 4 = .ok (.iload_n 2, 1)))) (
   sndC (sd_if_eq (ht := by decide) (hd := (by decide +kernel : decode cX4_nameBetween 8 = .ok (.ifCond .eq 7, 3)))) (
   sndC (sd_iconst (hd := (by decide +kernel : decode cX4_nameBetween 11 = .ok (.iconst (-1), 1))) (hv := by decide)) (
   sndC (sd_goto (ht := by decide) (hd := (by decide +kernel : decode cX4_nameBetween 12 = .ok (.goto 85, 3)))) (
   sndC (sd_ldcS (i := 2) (hi := rfl) (hd := (by decide +kernel : decode cX4_nameBetween 15 = .ok (.ldc 120, 2)))) (
   sndC (sd_aload_n (hi := rfl) (hd := (by decide +kernel : decode cX4_nameBetween 17 = .ok (.aload_n 0, 1)))) (
   sndC (sd_iload_n (hi := rfl) (hd := (by decide +kernel : decode cX4_nameBetween 18 = .ok (.iload_n 1, 1)))) (
   sndC (sd_iload_n (hi := rfl) (hd := (by decide +kernel : decode cX4_nameBetween 19 = .ok (.iload_n 2, 1)))) (
   sndC (sd_if_eq (ht := by decide) (hd := (by decide +kernel : decode cX4_nameBetween 23 = .ok (.ifCond .eq 8, 3)))) (
   sndC (sd_bipush (hd := (by decide +kernel : decode cX4_nameBetween 26 = .ok (.bipush (-2), 2))) (hv := by decide)) (
   sndC (sd_goto (ht := by decide) (hd := (by decide +kernel : decode cX4_nameBetween 28 = .ok (.goto 69, 3)))) (
   sndC (sd_ldcS (i := 3) (hi := rfl) (hd := (by decide +kernel : decode cX4_nameBetween 31 = .ok (.ldc 122, 2)))) (
   sndC (sd_aload_n (hi := rfl) (hd := (by decide +kernel : decode cX4_nameBetween 33 = .ok (.aload_n 0, 1)))) (
   sndC (sd_iload_n (hi := rfl) (hd := (by decide +kernel : decode cX4_nameBetween 34 = .ok (.iload_n 1, 1)))) (
   sndC (sd_iload_n (hi := rfl) (hd := (by decide +kernel : decode cX4_nameBetween 35 = .ok (.iload_n 2, 1)))) (
   sndC (sd_if_eq (ht := by decide) (hd := (by decide +kernel : decode cX4_nameBetween 39 = .ok (.ifCond .eq 8, 3)))) (
   sndC (sd_bipush (hd := (by decide +kernel : decode cX4_nameBetween 42 = .ok (.bipush (-3), 2))) (hv := by decide)) (
   sndC (sd_goto (ht := by decide) (hd := (by decide +kernel : decode cX4_nameBetween 44 = .ok (.goto 53, 3)))) (
   sndC (sd_ldcS (i := 4) (hi := rfl) (hd := (by decide +kernel : decode cX4_nameBetween 47 = .ok (.ldc 124, 2)))) (
   sndC (sd_aload_n (hi := rfl) (hd := (by decide +kernel : decode cX4_nameBetween 49 = .ok (.aload_n 0, 1)))) (
   sndC (sd_iload_n (hi := rfl) (hd := (by decide +kernel : decode cX4_nameBetween 50 = .ok (.iload_n 1, 1)))) (
   sndC (sd_iload_n (hi := rfl) (hd := (by decide +kernel : decode cX4_nameBetween 51 = .ok (.iload_n 2, 1)))) (
   sndC (sd_if_eq (ht := by decide) (hd := (by decide +kernel : decode cX4_nameBetween 55 = .ok (.ifCond .eq 8, 3)))) (
   sndC (sd_bipush (hd := (by decide +kernel : decode cX4_nameBetween 58 = .ok (.bipush (-4), 2))) (hv := by decide)) (
   sndC (sd_goto (ht := by decide) (hd := (by decide +kernel : decode cX4_nameBetween 60 = .ok (.goto 37, 3)))) (
   sndC (sd_ldcS (i := 5) (hi := rfl) (hd := (by decide +kernel : decode cX4_nameBetween 63 = .ok (.ldc 126, 2)))) (
   sndC (sd_aload_n (hi := rfl) (hd := (by decide +kernel : decode cX4_nameBetween 65 = .ok (.aload_n 0, 1)))) (
   sndC (sd_iload_n (hi := rfl) (hd := (by decide +kernel : decode cX4_nameBetween 66 = .ok (.iload_n 1, 1)))) (
   sndC (sd_iload_n (hi := rfl) (hd := (by decide +kernel : decode cX4_nameBetween 67 = .ok (.iload_n 2, 1)))) (
   sndC (sd_if_eq (ht := by decide) (hd := (by decide +kernel : decode cX4_nameBetween 71 = .ok (.ifCond .eq 8, 3)))) (
   sndC (sd_bipush (hd := (by decide +kernel : decode cX4_nameBetween 74 = .ok (.bipush (-5), 2))) (hv := by decide)) (
   sndC (sd_goto (ht := by decide) (hd := (by decide +kernel : decode cX4_nameBetween 76 = .ok (.goto 21, 3)))) (
   sndC (sd_ldcS (i := 6) (hi := rfl) (hd := (by decide +kernel : decode cX4_nameBetween 79 = .ok (.ldc 128, 2)))) (
   sndC (sd_aload_n (hi := rfl) (hd := (by decide +kernel : decode cX4_nameBetween 81 = .ok (.aload_n 0, 1)))) (
   sndC (sd_iload_n (hi := rfl) (hd := (by decide +kernel : decode cX4_nameBetween 82 = .ok (.iload_n 1, 1)))) (
   sndC (sd_iload_n (hi := rfl) (hd := (by decide +kernel : decode cX4_nameBetween 83 = .ok (.iload_n 2, 1)))) (
   sndC (sd_if_eq (ht := by decide) (hd := (by decide +kernel : decode cX4_nameBetween 87 = .ok (.ifCond .eq 8, 3)))) (
   sndC (sd_bipush (hd := (by decide +kernel : decode cX4_nameBetween 90 = .ok (.bipush (-6), 2))) (hv := by decide)) (
   sndC (sd_goto (ht := by decide) (hd := (by decide +kernel : decode cX4_nameBetween 92 = .ok (.goto 5, 3)))) (
   sndC (sd_bipush (hd := (by decide +kernel : decode cX4_nameBetween 95 = .ok (.bipush (-23), 2))) (hv := by decide)) (
   sndN)))))))))))))))))))))))))))))))))))))))))))⟩
theorem kX4_nameBetween_5 : CallAt mX4_nameBetween 5 1 mX4_stands 4 := ⟨by decide +kernel, ⟨_, (by decide +kernel : decode cX4_nameBetween 5 = .ok (.invokestatic 104, 3)), w_409, w_410⟩⟩
theorem kX4_nameBetween_20 : CallAt mX4_nameBetween 20 1 mX4_stands 4 := ⟨by decide +kernel, ⟨_, (by decide +kernel : decode cX4_nameBetween 20 = .ok (.invokestatic 104, 3)), w_409, w_410⟩⟩
theorem kX4_nameBetween_36 : CallAt mX4_nameBetween 36 1 mX4_stands 4 := ⟨by decide +kernel, ⟨_, (by decide +kernel : decode cX4_nameBetween 36 = .ok (.invokestatic 104, 3)), w_409, w_410⟩⟩
theorem kX4_nameBetween_52 : CallAt mX4_nameBetween 52 1 mX4_stands 4 := ⟨by decide +kernel, ⟨_, (by decide +kernel : decode cX4_nameBetween 52 = .ok (.invokestatic 104, 3)), w_409, w_410⟩⟩
theorem kX4_nameBetween_68 : CallAt mX4_nameBetween 68 1 mX4_stands 4 := ⟨by decide +kernel, ⟨_, (by decide +kernel : decode cX4_nameBetween 68 = .ok (.invokestatic 104, 3)), w_409, w_410⟩⟩
theorem kX4_nameBetween_84 : CallAt mX4_nameBetween 84 1 mX4_stands 4 := ⟨by decide +kernel, ⟨_, (by decide +kernel : decode cX4_nameBetween 84 = .ok (.invokestatic 104, 3)), w_409, w_410⟩⟩

set_option maxRecDepth 20000 in
theorem GX4_stands : Good mX4_stands := ⟨by decide +kernel, List.mem_of_getElem? (i := 411) (by decide +kernel), inX4, ⟨by decide +kernel, by decide +kernel⟩, by decide, show ∀ q ∈ tX4_stands, Snd mX4_stands q.1 q.2 from
  sndC (sd_aload_n (hi := rfl) (hd := (by decide +kernel : decode cX4_stands 0 = .ok (.aload_n 0, 1)))) (
   sndC (sd_iload_n (hi := rfl) (hd := (by decide +kernel : decode cX4_stands 4 = .ok (.iload_n 3, 1)))) (
   sndC (sd_iload_n (hi := rfl) (hd := (by decide +kernel : decode cX4_stands 5 = .ok (.iload_n 2, 1)))) (
   sndC (sd_isub (hd := (by decide +kernel : decode cX4_stands 6 = .ok (.isub, 1)))) (
   sndC (sd_cmp_eq (ht := by decide) (hd := (by decide +kernel : decode cX4_stands 7 = .ok (.if_icmp .eq 5, 3)))) (
   sndC (sd_iconst (hd := (by decide +kernel : decode cX4_stands 10 = .ok (.iconst 0, 1))) (hv := by decide)) (
   sndC (sd_iconst (hd := (by decide +kernel : decode cX4_stands 12 = .ok (.iconst 0, 1))) (hv := by decide)) (
   sndC (sd_istore (hd := (by decide +kernel : decode cX4_stands 13 = .ok (.istore 4, 2)))) (
   sndC (sd_iload (hd := (by decide +kernel : decode cX4_stands 15 = .ok (.iload 4, 2)))) (
   sndC (sd_aload_n (hi := rfl) (hd := (by decide +kernel : decode cX4_stands 17 = .ok (.aload_n 0, 1)))) (
   sndC (sd_cmp_ge (ht := by decide) (hd := (by decide +kernel : decode cX4_stands 21 = .ok (.if_icmp .ge 28, 3)))) (
   sndC (sd_aload_n (hi := rfl) (hd := (by decide +kernel : decode cX4_stands 24 = .ok (.aload_n 0, 1)))) (
   sndC (sd_iload (hd := (by decide +kernel : decode cX4_stands 25 = .ok (.iload 4, 2)))) (
   sndC (sd_aload_n (hi := rfl) (hd := (by decide +kernel : decode cX4_stands 30 = .ok (.aload_n 1, 1)))) (
   sndC (sd_iload_n (hi := rfl) (hd := (by decide +kernel : decode cX4_stands 31 = .ok (.iload_n 2, 1)))) (
   sndC (sd_iload (hd := (by decide +kernel : decode cX4_stands 32 = .ok (.iload 4, 2)))) (
   sndC (sd_iadd (hd := (by decide +kernel : decode cX4_stands 34 = .ok (.iadd, 1)))) (
   sndC (sd_cmp_eq (ht := by decide) (hd := (by decide +kernel : decode cX4_stands 38 = .ok (.if_icmp .eq 5, 3)))) (
   sndC (sd_iconst (hd := (by decide +kernel : decode cX4_stands 41 = .ok (.iconst 0, 1))) (hv := by decide)) (
   sndC (sd_iinc (hv := by decide) (hd := (by decide +kernel : decode cX4_stands 43 = .ok (.iinc 4 1, 3)))) (
   sndC (sd_goto (ht := by decide) (hd := (by decide +kernel : decode cX4_stands 46 = .ok (.goto (-31), 3)))) (
   sndC (sd_iconst (hd := (by decide +kernel : decode cX4_stands 49 = .ok (.iconst 1, 1))) (hv := by decide)) (
   sndN))))))))))))))))))))))⟩
theorem kX4_stands_1 : CallAt mX4_stands 1 0 mJ0_length_8abf5 0 := ⟨by decide +kernel, ⟨_, (by decide +kernel : decode cX4_stands 1 = .ok (.invokevirtual 130, 3)), w_412, w_332, w_333⟩⟩
theorem kX4_stands_18 : CallAt mX4_stands 18 0 mJ0_length_8abf5 0 := ⟨by decide +kernel, ⟨_, (by decide +kernel : decode cX4_stands 18 = .ok (.invokevirtual 130, 3)), w_412, w_332, w_333⟩⟩
theorem kX4_stands_27 : CallAt mX4_stands 27 0 mJ0_charAt_5068e 1 := ⟨by decide +kernel, ⟨_, (by decide +kernel : decode cX4_stands 27 = .ok (.invokevirtual 135, 3)), w_413, w_342, w_343⟩⟩
theorem kX4_stands_35 : CallAt mX4_stands 35 1 mX5_at 2 := ⟨by decide +kernel, ⟨_, (by decide +kernel : decode cX4_stands 35 = .ok (.invokestatic 47, 3)), w_390, w_391⟩⟩

set_option maxRecDepth 20000 in
theorem GX4_sign : Good mX4_sign := ⟨by decide +kernel, List.mem_of_getElem? (i := 445) (by decide +kernel), inX4, ⟨by decide +kernel, by decide +kernel⟩, by decide, show ∀ q ∈ tX4_sign, Snd mX4_sign q.1 q.2 from
  sndC (sd_aload_n (hi := rfl) (hd := (by decide +kernel : decode cX4_sign 0 = .ok (.aload_n 0, 1)))) (
   sndC (sd_get (C := RX4) (T := TX4) (N := 6) (hc := rfl) (hin0 := iX4) (hk := by decide) (hlink := w_163) (hd := (by decide +kernel : decode cX4_sign 1 = .ok (.getfield 30, 3)))) (
   sndC (sd_if_lt (ht := by decide) (hd := (by decide +kernel : decode cX4_sign 4 = .ok (.ifCond .lt 27, 3)))) (
   sndC (sd_aload_n (hi := rfl) (hd := (by decide +kernel : decode cX4_sign 7 = .ok (.aload_n 0, 1)))) (
   sndC (sd_get (C := RX4) (T := TX4) (N := 6) (hc := rfl) (hin0 := iX4) (hk := by decide) (hlink := w_163) (hd := (by decide +kernel : decode cX4_sign 8 = .ok (.getfield 30, 3)))) (
   sndC (sd_aload_n (hi := rfl) (hd := (by decide +kernel : decode cX4_sign 11 = .ok (.aload_n 0, 1)))) (
   sndC (sd_get (C := RX4) (T := TX4) (N := 6) (hc := rfl) (hin0 := iX4) (hk := by decide) (hlink := w_159) (hd := (by decide +kernel : decode cX4_sign 12 = .ok (.getfield 9, 3)))) (
   sndC (sd_len (hd := (by decide +kernel : decode cX4_sign 15 = .ok (.arraylength, 1)))) (
   sndC (sd_cmp_ge (ht := by decide) (hd := (by decide +kernel : decode cX4_sign 16 = .ok (.if_icmp .ge 15, 3)))) (
   sndC (sd_aload_n (hi := rfl) (hd := (by decide +kernel : decode cX4_sign 19 = .ok (.aload_n 0, 1)))) (
   sndC (sd_get (C := RX4) (T := TX4) (N := 6) (hc := rfl) (hin0 := iX4) (hk := by decide) (hlink := w_159) (hd := (by decide +kernel : decode cX4_sign 20 = .ok (.getfield 9, 3)))) (
   sndC (sd_aload_n (hi := rfl) (hd := (by decide +kernel : decode cX4_sign 23 = .ok (.aload_n 0, 1)))) (
   sndC (sd_get (C := RX4) (T := TX4) (N := 6) (hc := rfl) (hin0 := iX4) (hk := by decide) (hlink := w_163) (hd := (by decide +kernel : decode cX4_sign 24 = .ok (.getfield 30, 3)))) (
   sndC (sd_iald (hd := (by decide +kernel : decode cX4_sign 27 = .ok (.iaload, 1)))) (
   sndC (sd_goto (ht := by decide) (hd := (by decide +kernel : decode cX4_sign 28 = .ok (.goto 5, 3)))) (
   sndC (sd_bipush (hd := (by decide +kernel : decode cX4_sign 31 = .ok (.bipush (-23), 2))) (hv := by decide)) (
   sndN))))))))))))))))⟩


set_option maxRecDepth 20000 in
theorem GX4_take : Good mX4_take := ⟨by decide +kernel, List.mem_of_getElem? (i := 441) (by decide +kernel), inX4, ⟨by decide +kernel, by decide +kernel⟩, by decide, show ∀ q ∈ tX4_take, Snd mX4_take q.1 q.2 from
  sndC (sd_aload_n (hi := rfl) (hd := (by decide +kernel : decode cX4_take 0 = .ok (.aload_n 0, 1)))) (
   sndC (sd_iload_n (hi := rfl) (hd := (by decide +kernel : decode cX4_take 4 = .ok (.iload_n 1, 1)))) (
   sndC (sd_cmp_eq (ht := by decide) (hd := (by decide +kernel : decode cX4_take 5 = .ok (.if_icmp .eq 5, 3)))) (
   sndC (sd_iconst (hd := (by decide +kernel : decode cX4_take 8 = .ok (.iconst 0, 1))) (hv := by decide)) (
   sndC (sd_aload_n (hi := rfl) (hd := (by decide +kernel : decode cX4_take 10 = .ok (.aload_n 0, 1)))) (
   sndC (sd_dup (hd := (by decide +kernel : decode cX4_take 11 = .ok (.dup, 1)))) (
   sndC (sd_get (C := RX4) (T := TX4) (N := 6) (hc := rfl) (hin0 := iX4) (hk := by decide) (hlink := w_163) (hd := (by decide +kernel : decode cX4_take 12 = .ok (.getfield 30, 3)))) (
   sndC (sd_iconst (hd := (by decide +kernel : decode cX4_take 15 = .ok (.iconst 1, 1))) (hv := by decide)) (
   sndC (sd_iadd (hd := (by decide +kernel : decode cX4_take 16 = .ok (.iadd, 1)))) (
   sndC (sd_putI (C := RX4) (T := TX4) (N := 6) (hc := rfl) (hin0 := iX4) (hk := by decide) (hlink := w_163) (ty0 := tyX4) (hty := tyX4_ok) (hnm := nmX4) (hfin := rfl) (hi := rfl) (hd := (by decide +kernel : decode cX4_take 17 = .ok (.putfield 30, 3)))) (
   sndC (sd_iconst (hd := (by decide +kernel : decode cX4_take 20 = .ok (.iconst 1, 1))) (hv := by decide)) (
   sndN)))))))))))⟩
theorem kX4_take_1 : CallAt mX4_take 1 0 mX4_sign 0 := ⟨by decide +kernel, ⟨_, (by decide +kernel : decode cX4_take 1 = .ok (.invokevirtual 43, 3)), w_442, w_444, w_3⟩⟩

set_option maxRecDepth 20000 in
theorem GX4_emit : Good mX4_emit := ⟨by decide +kernel, List.mem_of_getElem? (i := 461) (by decide +kernel), inX4, ⟨by decide +kernel, by decide +kernel⟩, by decide, show ∀ q ∈ tX4_emit, Snd mX4_emit q.1 q.2 from
  sndC (sd_aload_n (hi := rfl) (hd := (by decide +kernel : decode cX4_emit 0 = .ok (.aload_n 0, 1)))) (
   sndC (sd_get (C := RX4) (T := TX4) (N := 6) (hc := rfl) (hin0 := iX4) (hk := by decide) (hlink := w_161) (hd := (by decide +kernel : decode cX4_emit 1 = .ok (.getfield 18, 3)))) (
   sndC (sd_aload_n (hi := rfl) (hd := (by decide +kernel : decode cX4_emit 4 = .ok (.aload_n 0, 1)))) (
   sndC (sd_get (C := RX4) (T := TX4) (N := 6) (hc := rfl) (hin0 := iX4) (hk := by decide) (hlink := w_164) (hd := (by decide +kernel : decode cX4_emit 5 = .ok (.getfield 34, 3)))) (
   sndC (sd_iload_n (hi := rfl) (hd := (by decide +kernel : decode cX4_emit 8 = .ok (.iload_n 1, 1)))) (
   sndC (sd_aload_n (hi := rfl) (hd := (by decide +kernel : decode cX4_emit 12 = .ok (.aload_n 0, 1)))) (
   sndC (sd_dup (hd := (by decide +kernel : decode cX4_emit 13 = .ok (.dup, 1)))) (
   sndC (sd_get (C := RX4) (T := TX4) (N := 6) (hc := rfl) (hin0 := iX4) (hk := by decide) (hlink := w_164) (hd := (by decide +kernel : decode cX4_emit 14 = .ok (.getfield 34, 3)))) (
   sndC (sd_iconst (hd := (by decide +kernel : decode cX4_emit 17 = .ok (.iconst 1, 1))) (hv := by decide)) (
   sndC (sd_iadd (hd := (by decide +kernel : decode cX4_emit 18 = .ok (.iadd, 1)))) (
   sndC (sd_putI (C := RX4) (T := TX4) (N := 6) (hc := rfl) (hin0 := iX4) (hk := by decide) (hlink := w_164) (ty0 := tyX4) (hty := tyX4_ok) (hnm := nmX4) (hfin := rfl) (hi := rfl) (hd := (by decide +kernel : decode cX4_emit 19 = .ok (.putfield 34, 3)))) (
   sndC (sd_iconst (hd := (by decide +kernel : decode cX4_emit 22 = .ok (.iconst 1, 1))) (hv := by decide)) (
   sndN))))))))))))⟩
theorem kX4_emit_9 : CallAt mX4_emit 9 1 mX5_put 3 := ⟨by decide +kernel, ⟨_, (by decide +kernel : decode cX4_emit 9 = .ok (.invokestatic 82, 3)), w_431, w_432⟩⟩

set_option maxRecDepth 20000 in
theorem GX4_readPart : Good mX4_readPart := ⟨by decide +kernel, List.mem_of_getElem? (i := 437) (by decide +kernel), inX4, ⟨by decide +kernel, by decide +kernel⟩, by decide, show ∀ q ∈ tX4_readPart, Snd mX4_readPart q.1 q.2 from
  sndC (sd_aload_n (hi := rfl) (hd := (by decide +kernel : decode cX4_readPart 0 = .ok (.aload_n 0, 1)))) (
   sndC (sd_iload_n (hi := rfl) (hd := (by decide +kernel : decode cX4_readPart 1 = .ok (.iload_n 2, 1)))) (
   sndC (sd_if_eq (ht := by decide) (hd := (by decide +kernel : decode cX4_readPart 5 = .ok (.ifCond .eq 25, 3)))) (
   sndC (sd_aload_n (hi := rfl) (hd := (by decide +kernel : decode cX4_readPart 8 = .ok (.aload_n 0, 1)))) (
   sndC (sd_iconst (hd := (by decide +kernel : decode cX4_readPart 9 = .ok (.iconst 0, 1))) (hv := by decide)) (
   sndC (sd_iconst (hd := (by decide +kernel : decode cX4_readPart 10 = .ok (.iconst 0, 1))) (hv := by decide)) (
   sndC (sd_if_eq (ht := by decide) (hd := (by decide +kernel : decode cX4_readPart 14 = .ok (.ifCond .eq 16, 3)))) (
   sndC (sd_aload_n (hi := rfl) (hd := (by decide +kernel : decode cX4_readPart 17 = .ok (.aload_n 0, 1)))) (
   sndC (sd_bipush (hd := (by decide +kernel : decode cX4_readPart 18 = .ok (.bipush (-15), 2))) (hv := by decide)) (
   sndC (sd_if_eq (ht := by decide) (hd := (by decide +kernel : decode cX4_readPart 23 = .ok (.ifCond .eq 7, 3)))) (
   sndC (sd_iconst (hd := (by decide +kernel : decode cX4_readPart 26 = .ok (.iconst 1, 1))) (hv := by decide)) (
   sndC (sd_goto (ht := by decide) (hd := (by decide +kernel : decode cX4_readPart 27 = .ok (.goto 4, 3)))) (
   sndC (sd_iconst (hd := (by decide +kernel : decode cX4_readPart 30 = .ok (.iconst 0, 1))) (hv := by decide)) (
   sndC (sd_istore_n (hi := rfl) (hd := (by decide +kernel : decode cX4_readPart 31 = .ok (.istore_n 3, 1)))) (
   sndC (sd_aload_n (hi := rfl) (hd := (by decide +kernel : decode cX4_readPart 32 = .ok (.aload_n 0, 1)))) (
   sndC (sd_get (C := RX4) (T := TX4) (N := 6) (hc := rfl) (hin0 := iX4) (hk := by decide) (hlink := w_162) (hd := (by decide +kernel : decode cX4_readPart 33 = .ok (.getfield 23, 3)))) (
   sndC (sd_iload_n (hi := rfl) (hd := (by decide +kernel : decode cX4_readPart 36 = .ok (.iload_n 1, 1)))) (
   sndC (sd_aload_n (hi := rfl) (hd := (by decide +kernel : decode cX4_readPart 37 = .ok (.aload_n 0, 1)))) (
   sndC (sd_get (C := RX4) (T := TX4) (N := 6) (hc := rfl) (hin0 := iX4) (hk := by decide) (hlink := w_164) (hd := (by decide +kernel : decode cX4_readPart 38 = .ok (.getfield 34, 3)))) (
   sndC (sd_iload_n (hi := rfl) (hd := (by decide +kernel : decode cX4_readPart 44 = .ok (.iload_n 3, 1)))) (
   sndN))))))))))))))))))))⟩
theorem kX4_readPart_2 : CallAt mX4_readPart 2 0 mX4_take 1 := ⟨by decide +kernel, ⟨_, (by decide +kernel : decode cX4_readPart 2 = .ok (.invokevirtual 139, 3)), w_438, w_440, w_2⟩⟩
theorem kX4_readPart_11 : CallAt mX4_readPart 11 0 mX4_readChain 2 := ⟨by decide +kernel, ⟨_, (by decide +kernel : decode cX4_readPart 11 = .ok (.invokevirtual 143, 3)), w_446, w_448, w_4⟩⟩
theorem kX4_readPart_20 : CallAt mX4_readPart 20 0 mX4_take 1 := ⟨by decide +kernel, ⟨_, (by decide +kernel : decode cX4_readPart 20 = .ok (.invokevirtual 139, 3)), w_438, w_440, w_2⟩⟩
theorem kX4_readPart_41 : CallAt mX4_readPart 41 1 mX5_put 3 := ⟨by decide +kernel, ⟨_, (by decide +kernel : decode cX4_readPart 41 = .ok (.invokestatic 82, 3)), w_431, w_432⟩⟩

set_option maxRecDepth 20000 in
theorem GX4_readChain : Good mX4_readChain := ⟨by decide +kernel, List.mem_of_getElem? (i := 449) (by decide +kernel), inX4, ⟨by decide +kernel, by decide +kernel⟩, by decide, show ∀ q ∈ tX4_readChain, Snd mX4_readChain q.1 q.2 from
  sndC (sd_aload_n (hi := rfl) (hd := (by decide +kernel : decode cX4_readChain 0 = .ok (.aload_n 0, 1)))) (
   sndC (sd_iload_n (hi := rfl) (hd := (by decide +kernel : decode cX4_readChain 1 = .ok (.iload_n 1, 1)))) (
   sndC (sd_iload_n (hi := rfl) (hd := (by decide +kernel : decode cX4_readChain 2 = .ok (.iload_n 2, 1)))) (
   sndC (sd_istore_n (hi := rfl) (hd := (by decide +kernel : decode cX4_readChain 6 = .ok (.istore_n 3, 1)))) (
   sndC (sd_iconst (hd := (by decide +kernel : decode cX4_readChain 7 = .ok (.iconst 0, 1))) (hv := by decide)) (
   sndC (sd_istore (hd := (by decide +kernel : decode cX4_readChain 8 = .ok (.istore 4, 2)))) (
   sndC (sd_iload (hd := (by decide +kernel : decode cX4_readChain 10 = .ok (.iload 4, 2)))) (
   sndC (sd_sipush (hd := (by decide +kernel : decode cX4_readChain 12 = .ok (.sipush 160, 3))) (hv := by decide)) (
   sndC (sd_cmp_ge (ht := by decide) (hd := (by decide +kernel : decode cX4_readChain 15 = .ok (.if_icmp .ge 64, 3)))) (
   sndC (sd_iload_n (hi := rfl) (hd := (by decide +kernel : decode cX4_readChain 18 = .ok (.iload_n 3, 1)))) (
   sndC (sd_if_eq (ht := by decide) (hd := (by decide +kernel : decode cX4_readChain 19 = .ok (.ifCond .eq 60, 3)))) (
   sndC (sd_iload_n (hi := rfl) (hd := (by decide +kernel : decode cX4_readChain 22 = .ok (.iload_n 1, 1)))) (
   sndC (sd_aload_n (hi := rfl) (hd := (by decide +kernel : decode cX4_readChain 23 = .ok (.aload_n 0, 1)))) (
   sndC (sd_if_eq (ht := by decide) (hd := (by decide +kernel : decode cX4_readChain 30 = .ok (.ifCond .eq 49, 3)))) (
   sndC (sd_aload_n (hi := rfl) (hd := (by decide +kernel : decode cX4_readChain 33 = .ok (.aload_n 0, 1)))) (
   sndC (sd_istore (hd := (by decide +kernel : decode cX4_readChain 37 = .ok (.istore 5, 2)))) (
   sndC (sd_aload_n (hi := rfl) (hd := (by decide +kernel : decode cX4_readChain 39 = .ok (.aload_n 0, 1)))) (
   sndC (sd_dup (hd := (by decide +kernel : decode cX4_readChain 40 = .ok (.dup, 1)))) (
   sndC (sd_get (C := RX4) (T := TX4) (N := 6) (hc := rfl) (hin0 := iX4) (hk := by decide) (hlink := w_163) (hd := (by decide +kernel : decode cX4_readChain 41 = .ok (.getfield 30, 3)))) (
   sndC (sd_iconst (hd := (by decide +kernel : decode cX4_readChain 44 = .ok (.iconst 1, 1))) (hv := by decide)) (
   sndC (sd_iadd (hd := (by decide +kernel : decode cX4_readChain 45 = .ok (.iadd, 1)))) (
   sndC (sd_putI (C := RX4) (T := TX4) (N := 6) (hc := rfl) (hin0 := iX4) (hk := by decide) (hlink := w_163) (ty0 := tyX4) (hty := tyX4_ok) (hnm := nmX4) (hfin := rfl) (hi := rfl) (hd := (by decide +kernel : decode cX4_readChain 46 = .ok (.putfield 30, 3)))) (
   sndC (sd_aload_n (hi := rfl) (hd := (by decide +kernel : decode cX4_readChain 49 = .ok (.aload_n 0, 1)))) (
   sndC (sd_iload_n (hi := rfl) (hd := (by decide +kernel : decode cX4_readChain 50 = .ok (.iload_n 1, 1)))) (
   sndC (sd_iload_n (hi := rfl) (hd := (by decide +kernel : decode cX4_readChain 51 = .ok (.iload_n 2, 1)))) (
   sndC (sd_if_eq (ht := by decide) (hd := (by decide +kernel : decode cX4_readChain 55 = .ok (.ifCond .eq 16, 3)))) (
   sndC (sd_aload_n (hi := rfl) (hd := (by decide +kernel : decode cX4_readChain 58 = .ok (.aload_n 0, 1)))) (
   sndC (sd_iload (hd := (by decide +kernel : decode cX4_readChain 59 = .ok (.iload 5, 2)))) (
   sndC (sd_if_eq (ht := by decide) (hd := (by decide +kernel : decode cX4_readChain 64 = .ok (.ifCond .eq 7, 3)))) (
   sndC (sd_iconst (hd := (by decide +kernel : decode cX4_readChain 67 = .ok (.iconst 1, 1))) (hv := by decide)) (
   sndC (sd_goto (ht := by decide) (hd := (by decide +kernel : decode cX4_readChain 68 = .ok (.goto 4, 3)))) (
   sndC (sd_iconst (hd := (by decide +kernel : decode cX4_readChain 71 = .ok (.iconst 0, 1))) (hv := by decide)) (
   sndC (sd_istore_n (hi := rfl) (hd := (by decide +kernel : decode cX4_readChain 72 = .ok (.istore_n 3, 1)))) (
   sndC (sd_iinc (hv := by decide) (hd := (by decide +kernel : decode cX4_readChain 73 = .ok (.iinc 4 1, 3)))) (
   sndC (sd_goto (ht := by decide) (hd := (by decide +kernel : decode cX4_readChain 76 = .ok (.goto (-66), 3)))) (
   sndC (sd_iload_n (hi := rfl) (hd := (by decide +kernel : decode cX4_readChain 79 = .ok (.iload_n 3, 1)))) (
   sndN))))))))))))))))))))))))))))))))))))⟩
theorem kX4_readChain_3 : CallAt mX4_readChain 3 0 mX4_readLink 2 := ⟨by decide +kernel, ⟨_, (by decide +kernel : decode cX4_readChain 3 = .ok (.invokevirtual 146, 3)), w_450, w_452, w_5⟩⟩
theorem kX4_readChain_24 : CallAt mX4_readChain 24 0 mX4_sign 0 := ⟨by decide +kernel, ⟨_, (by decide +kernel : decode cX4_readChain 24 = .ok (.invokevirtual 43, 3)), w_442, w_444, w_3⟩⟩
theorem kX4_readChain_27 : CallAt mX4_readChain 27 1 mX4_joins 2 := ⟨by decide +kernel, ⟨_, (by decide +kernel : decode cX4_readChain 27 = .ok (.invokestatic 149, 3)), w_469, w_470⟩⟩
theorem kX4_readChain_34 : CallAt mX4_readChain 34 0 mX4_sign 0 := ⟨by decide +kernel, ⟨_, (by decide +kernel : decode cX4_readChain 34 = .ok (.invokevirtual 43, 3)), w_442, w_444, w_3⟩⟩
theorem kX4_readChain_52 : CallAt mX4_readChain 52 0 mX4_readLink 2 := ⟨by decide +kernel, ⟨_, (by decide +kernel : decode cX4_readChain 52 = .ok (.invokevirtual 146, 3)), w_450, w_452, w_5⟩⟩
theorem kX4_readChain_61 : CallAt mX4_readChain 61 0 mX4_emit 1 := ⟨by decide +kernel, ⟨_, (by decide +kernel : decode cX4_readChain 61 = .ok (.invokevirtual 152, 3)), w_458, w_460, w_7⟩⟩

set_option maxRecDepth 20000 in
theorem GX4_joins : Good mX4_joins := ⟨by decide +kernel, List.mem_of_getElem? (i := 471) (by decide +kernel), inX4, ⟨by decide +kernel, by decide +kernel⟩, by decide, show ∀ q ∈ tX4_joins, Snd mX4_joins q.1 q.2 from
  sndC (sd_iload_n (hi := rfl) (hd := (by decide +kernel : decode cX4_joins 0 = .ok (.iload_n 0, 1)))) (
   sndC (sd_tsw (hd := (by decide +kernel : decode cX4_joins 1 = .ok (.tableswitch 69 0 2 #[27, 39, 51], 27))) (hok := by decide +kernel)) (
   sndC (sd_iload_n (hi := rfl) (hd := (by decide +kernel : decode cX4_joins 28 = .ok (.iload_n 1, 1)))) (
   sndC (sd_bipush (hd := (by decide +kernel : decode cX4_joins 29 = .ok (.bipush (-10), 2))) (hv := by decide)) (
   sndC (sd_cmp_ne (ht := by decide) (hd := (by decide +kernel : decode cX4_joins 31 = .ok (.if_icmp .ne 7, 3)))) (
   sndC (sd_iconst (hd := (by decide +kernel : decode cX4_joins 34 = .ok (.iconst 1, 1))) (hv := by decide)) (
   sndC (sd_goto (ht := by decide) (hd := (by decide +kernel : decode cX4_joins 35 = .ok (.goto 4, 3)))) (
   sndC (sd_iconst (hd := (by decide +kernel : decode cX4_joins 38 = .ok (.iconst 0, 1))) (hv := by decide)) (
   sndC (sd_iload_n (hi := rfl) (hd := (by decide +kernel : decode cX4_joins 40 = .ok (.iload_n 1, 1)))) (
   sndC (sd_bipush (hd := (by decide +kernel : decode cX4_joins 41 = .ok (.bipush (-11), 2))) (hv := by decide)) (
   sndC (sd_cmp_ne (ht := by decide) (hd := (by decide +kernel : decode cX4_joins 43 = .ok (.if_icmp .ne 7, 3)))) (
   sndC (sd_iconst (hd := (by decide +kernel : decode cX4_joins 46 = .ok (.iconst 1, 1))) (hv := by decide)) (
   sndC (sd_goto (ht := by decide) (hd := (by decide +kernel : decode cX4_joins 47 = .ok (.goto 4, 3)))) (
   sndC (sd_iconst (hd := (by decide +kernel : decode cX4_joins 50 = .ok (.iconst 0, 1))) (hv := by decide)) (
   sndC (sd_iload_n (hi := rfl) (hd := (by decide +kernel : decode cX4_joins 52 = .ok (.iload_n 1, 1)))) (
   sndC (sd_bipush (hd := (by decide +kernel : decode cX4_joins 53 = .ok (.bipush (-16), 2))) (hv := by decide)) (
   sndC (sd_cmp_eq (ht := by decide) (hd := (by decide +kernel : decode cX4_joins 55 = .ok (.if_icmp .eq 9, 3)))) (
   sndC (sd_iload_n (hi := rfl) (hd := (by decide +kernel : decode cX4_joins 58 = .ok (.iload_n 1, 1)))) (
   sndC (sd_bipush (hd := (by decide +kernel : decode cX4_joins 59 = .ok (.bipush (-17), 2))) (hv := by decide)) (
   sndC (sd_cmp_ne (ht := by decide) (hd := (by decide +kernel : decode cX4_joins 61 = .ok (.if_icmp .ne 7, 3)))) (
   sndC (sd_iconst (hd := (by decide +kernel : decode cX4_joins 64 = .ok (.iconst 1, 1))) (hv := by decide)) (
   sndC (sd_goto (ht := by decide) (hd := (by decide +kernel : decode cX4_joins 65 = .ok (.goto 4, 3)))) (
   sndC (sd_iconst (hd := (by decide +kernel : decode cX4_joins 68 = .ok (.iconst 0, 1))) (hv := by decide)) (
   sndC (sd_iload_n (hi := rfl) (hd := (by decide +kernel : decode cX4_joins 70 = .ok (.iload_n 1, 1)))) (
   sndC (sd_bipush (hd := (by decide +kernel : decode cX4_joins 71 = .ok (.bipush (-18), 2))) (hv := by decide)) (
   sndC (sd_cmp_ne (ht := by decide) (hd := (by decide +kernel : decode cX4_joins 73 = .ok (.if_icmp .ne 7, 3)))) (
   sndC (sd_iconst (hd := (by decide +kernel : decode cX4_joins 76 = .ok (.iconst 1, 1))) (hv := by decide)) (
   sndC (sd_goto (ht := by decide) (hd := (by decide +kernel : decode cX4_joins 77 = .ok (.goto 4, 3)))) (
   sndC (sd_iconst (hd := (by decide +kernel : decode cX4_joins 80 = .ok (.iconst 0, 1))) (hv := by decide)) (
   sndN)))))))))))))))))))))))))))))⟩


set_option maxRecDepth 20000 in
theorem GX4_readLink : Good mX4_readLink := ⟨by decide +kernel, List.mem_of_getElem? (i := 453) (by decide +kernel), inX4, ⟨by decide +kernel, by decide +kernel⟩, by decide, show ∀ q ∈ tX4_readLink, Snd mX4_readLink q.1 q.2 from
  sndC (sd_iload_n (hi := rfl) (hd := (by decide +kernel : decode cX4_readLink 0 = .ok (.iload_n 1, 1)))) (
   sndC (sd_tsw (hd := (by decide +kernel : decode cX4_readLink 1 = .ok (.tableswitch 47 0 2 #[27, 34, 40], 27))) (hok := by decide +kernel)) (
   sndC (sd_aload_n (hi := rfl) (hd := (by decide +kernel : decode cX4_readLink 28 = .ok (.aload_n 0, 1)))) (
   sndC (sd_iconst (hd := (by decide +kernel : decode cX4_readLink 29 = .ok (.iconst 1, 1))) (hv := by decide)) (
   sndC (sd_iload_n (hi := rfl) (hd := (by decide +kernel : decode cX4_readLink 30 = .ok (.iload_n 2, 1)))) (
   sndC (sd_aload_n (hi := rfl) (hd := (by decide +kernel : decode cX4_readLink 35 = .ok (.aload_n 0, 1)))) (
   sndC (sd_iload_n (hi := rfl) (hd := (by decide +kernel : decode cX4_readLink 36 = .ok (.iload_n 2, 1)))) (
   sndC (sd_aload_n (hi := rfl) (hd := (by decide +kernel : decode cX4_readLink 41 = .ok (.aload_n 0, 1)))) (
   sndC (sd_iconst (hd := (by decide +kernel : decode cX4_readLink 42 = .ok (.iconst 3, 1))) (hv := by decide)) (
   sndC (sd_iload_n (hi := rfl) (hd := (by decide +kernel : decode cX4_readLink 43 = .ok (.iload_n 2, 1)))) (
   sndC (sd_aload_n (hi := rfl) (hd := (by decide +kernel : decode cX4_readLink 48 = .ok (.aload_n 0, 1)))) (
   sndC (sd_iload_n (hi := rfl) (hd := (by decide +kernel : decode cX4_readLink 49 = .ok (.iload_n 2, 1)))) (
   sndN))))))))))))⟩
theorem kX4_readLink_31 : CallAt mX4_readLink 31 0 mX4_readChain 2 := ⟨by decide +kernel, ⟨_, (by decide +kernel : decode cX4_readLink 31 = .ok (.invokevirtual 143, 3)), w_446, w_448, w_4⟩⟩
theorem kX4_readLink_37 : CallAt mX4_readLink 37 0 mX4_readNot 1 := ⟨by decide +kernel, ⟨_, (by decide +kernel : decode cX4_readLink 37 = .ok (.invokevirtual 155, 3)), w_454, w_456, w_6⟩⟩
theorem kX4_readLink_44 : CallAt mX4_readLink 44 0 mX4_readChain 2 := ⟨by decide +kernel, ⟨_, (by decide +kernel : decode cX4_readLink 44 = .ok (.invokevirtual 143, 3)), w_446, w_448, w_4⟩⟩
theorem kX4_readLink_50 : CallAt mX4_readLink 50 0 mX4_readOne 1 := ⟨by decide +kernel, ⟨_, (by decide +kernel : decode cX4_readLink 50 = .ok (.invokevirtual 158, 3)), w_462, w_464, w_8⟩⟩

set_option maxRecDepth 20000 in
theorem GX4_readNot : Good mX4_readNot := ⟨by decide +kernel, List.mem_of_getElem? (i := 457) (by decide +kernel), inX4, ⟨by decide +kernel, by decide +kernel⟩, by decide, show ∀ q ∈ tX4_readNot, Snd mX4_readNot q.1 q.2 from
  sndC (sd_aload_n (hi := rfl) (hd := (by decide +kernel : decode cX4_readNot 0 = .ok (.aload_n 0, 1)))) (
   sndC (sd_bipush (hd := (by decide +kernel : decode cX4_readNot 4 = .ok (.bipush (-12), 2))) (hv := by decide)) (
   sndC (sd_cmp_ne (ht := by decide) (hd := (by decide +kernel : decode cX4_readNot 6 = .ok (.if_icmp .ne 46, 3)))) (
   sndC (sd_iload_n (hi := rfl) (hd := (by decide +kernel : decode cX4_readNot 9 = .ok (.iload_n 1, 1)))) (
   sndC (sd_iconst (hd := (by decide +kernel : decode cX4_readNot 10 = .ok (.iconst 5, 1))) (hv := by decide)) (
   sndC (sd_cmp_lt (ht := by decide) (hd := (by decide +kernel : decode cX4_readNot 11 = .ok (.if_icmp .lt 5, 3)))) (
   sndC (sd_iconst (hd := (by decide +kernel : decode cX4_readNot 14 = .ok (.iconst 0, 1))) (hv := by decide)) (
   sndC (sd_aload_n (hi := rfl) (hd := (by decide +kernel : decode cX4_readNot 16 = .ok (.aload_n 0, 1)))) (
   sndC (sd_dup (hd := (by decide +kernel : decode cX4_readNot 17 = .ok (.dup, 1)))) (
   sndC (sd_get (C := RX4) (T := TX4) (N := 6) (hc := rfl) (hin0 := iX4) (hk := by decide) (hlink := w_163) (hd := (by decide +kernel : decode cX4_readNot 18 = .ok (.getfield 30, 3)))) (
   sndC (sd_iconst (hd := (by decide +kernel : decode cX4_readNot 21 = .ok (.iconst 1, 1))) (hv := by decide)) (
   sndC (sd_iadd (hd := (by decide +kernel : decode cX4_readNot 22 = .ok (.iadd, 1)))) (
   sndC (sd_putI (C := RX4) (T := TX4) (N := 6) (hc := rfl) (hin0 := iX4) (hk := by decide) (hlink := w_163) (ty0 := tyX4) (hty := tyX4_ok) (hnm := nmX4) (hfin := rfl) (hi := rfl) (hd := (by decide +kernel : decode cX4_readNot 23 = .ok (.putfield 30, 3)))) (
   sndC (sd_aload_n (hi := rfl) (hd := (by decide +kernel : decode cX4_readNot 26 = .ok (.aload_n 0, 1)))) (
   sndC (sd_iconst (hd := (by decide +kernel : decode cX4_readNot 27 = .ok (.iconst 1, 1))) (hv := by decide)) (
   sndC (sd_iload_n (hi := rfl) (hd := (by decide +kernel : decode cX4_readNot 28 = .ok (.iload_n 1, 1)))) (
   sndC (sd_iconst (hd := (by decide +kernel : decode cX4_readNot 29 = .ok (.iconst 1, 1))) (hv := by decide)) (
   sndC (sd_iadd (hd := (by decide +kernel : decode cX4_readNot 30 = .ok (.iadd, 1)))) (
   sndC (sd_if_eq (ht := by decide) (hd := (by decide +kernel : decode cX4_readNot 34 = .ok (.ifCond .eq 16, 3)))) (
   sndC (sd_aload_n (hi := rfl) (hd := (by decide +kernel : decode cX4_readNot 37 = .ok (.aload_n 0, 1)))) (
   sndC (sd_bipush (hd := (by decide +kernel : decode cX4_readNot 38 = .ok (.bipush (-12), 2))) (hv := by decide)) (
   sndC (sd_if_eq (ht := by decide) (hd := (by decide +kernel : decode cX4_readNot 43 = .ok (.ifCond .eq 7, 3)))) (
   sndC (sd_iconst (hd := (by decide +kernel : decode cX4_readNot 46 = .ok (.iconst 1, 1))) (hv := by decide)) (
   sndC (sd_goto (ht := by decide) (hd := (by decide +kernel : decode cX4_readNot 47 = .ok (.goto 4, 3)))) (
   sndC (sd_iconst (hd := (by decide +kernel : decode cX4_readNot 50 = .ok (.iconst 0, 1))) (hv := by decide)) (
   sndC (sd_aload_n (hi := rfl) (hd := (by decide +kernel : decode cX4_readNot 52 = .ok (.aload_n 0, 1)))) (
   sndC (sd_iconst (hd := (by decide +kernel : decode cX4_readNot 53 = .ok (.iconst 2, 1))) (hv := by decide)) (
   sndC (sd_iload_n (hi := rfl) (hd := (by decide +kernel : decode cX4_readNot 54 = .ok (.iload_n 1, 1)))) (
   sndC (sd_if_ne (ht := by decide) (hd := (by decide +kernel : decode cX4_readNot 58 = .ok (.ifCond .ne 5, 3)))) (
   sndC (sd_iconst (hd := (by decide +kernel : decode cX4_readNot 61 = .ok (.iconst 0, 1))) (hv := by decide)) (
   sndC (sd_aload_n (hi := rfl) (hd := (by decide +kernel : decode cX4_readNot 63 = .ok (.aload_n 0, 1)))) (
   sndC (sd_istore_n (hi := rfl) (hd := (by decide +kernel : decode cX4_readNot 67 = .ok (.istore_n 2, 1)))) (
   sndC (sd_iload_n (hi := rfl) (hd := (by decide +kernel : decode cX4_readNot 68 = .ok (.iload_n 2, 1)))) (
   sndC (sd_bipush (hd := (by decide +kernel : decode cX4_readNot 69 = .ok (.bipush (-19), 2))) (hv := by decide)) (
   sndC (sd_cmp_eq (ht := by decide) (hd := (by decide +kernel : decode cX4_readNot 71 = .ok (.if_icmp .eq 11, 3)))) (
   sndC (sd_iload_n (hi := rfl) (hd := (by decide +kernel : decode cX4_readNot 74 = .ok (.iload_n 2, 1)))) (
   sndC (sd_bipush (hd := (by decide +kernel : decode cX4_readNot 75 = .ok (.bipush (-20), 2))) (hv := by decide)) (
   sndC (sd_cmp_eq (ht := by decide) (hd := (by decide +kernel : decode cX4_readNot 77 = .ok (.if_icmp .eq 5, 3)))) (
   sndC (sd_iconst (hd := (by decide +kernel : decode cX4_readNot 80 = .ok (.iconst 1, 1))) (hv := by decide)) (
   sndC (sd_aload_n (hi := rfl) (hd := (by decide +kernel : decode cX4_readNot 82 = .ok (.aload_n 0, 1)))) (
   sndC (sd_dup (hd := (by decide +kernel : decode cX4_readNot 83 = .ok (.dup, 1)))) (
   sndC (sd_get (C := RX4) (T := TX4) (N := 6) (hc := rfl) (hin0 := iX4) (hk := by decide) (hlink := w_163) (hd := (by decide +kernel : decode cX4_readNot 84 = .ok (.getfield 30, 3)))) (
   sndC (sd_iconst (hd := (by decide +kernel : decode cX4_readNot 87 = .ok (.iconst 1, 1))) (hv := by decide)) (
   sndC (sd_iadd (hd := (by decide +kernel : decode cX4_readNot 88 = .ok (.iadd, 1)))) (
   sndC (sd_putI (C := RX4) (T := TX4) (N := 6) (hc := rfl) (hin0 := iX4) (hk := by decide) (hlink := w_163) (ty0 := tyX4) (hty := tyX4_ok) (hnm := nmX4) (hfin := rfl) (hi := rfl) (hd := (by decide +kernel : decode cX4_readNot 89 = .ok (.putfield 30, 3)))) (
   sndC (sd_aload_n (hi := rfl) (hd := (by decide +kernel : decode cX4_readNot 92 = .ok (.aload_n 0, 1)))) (
   sndC (sd_iconst (hd := (by decide +kernel : decode cX4_readNot 93 = .ok (.iconst 2, 1))) (hv := by decide)) (
   sndC (sd_iload_n (hi := rfl) (hd := (by decide +kernel : decode cX4_readNot 94 = .ok (.iload_n 1, 1)))) (
   sndC (sd_if_eq (ht := by decide) (hd := (by decide +kernel : decode cX4_readNot 98 = .ok (.ifCond .eq 15, 3)))) (
   sndC (sd_aload_n (hi := rfl) (hd := (by decide +kernel : decode cX4_readNot 101 = .ok (.aload_n 0, 1)))) (
   sndC (sd_iload_n (hi := rfl) (hd := (by decide +kernel : decode cX4_readNot 102 = .ok (.iload_n 2, 1)))) (
   sndC (sd_if_eq (ht := by decide) (hd := (by decide +kernel : decode cX4_readNot 106 = .ok (.ifCond .eq 7, 3)))) (
   sndC (sd_iconst (hd := (by decide +kernel : decode cX4_readNot 109 = .ok (.iconst 1, 1))) (hv := by decide)) (
   sndC (sd_goto (ht := by decide) (hd := (by decide +kernel : decode cX4_readNot 110 = .ok (.goto 4, 3)))) (
   sndC (sd_iconst (hd := (by decide +kernel : decode cX4_readNot 113 = .ok (.iconst 0, 1))) (hv := by decide)) (
   sndN)))))))))))))))))))))))))))))))))))))))))))))))))))))))⟩
theorem kX4_readNot_1 : CallAt mX4_readNot 1 0 mX4_sign 0 := ⟨by decide +kernel, ⟨_, (by decide +kernel : decode cX4_readNot 1 = .ok (.invokevirtual 43, 3)), w_442, w_444, w_3⟩⟩
theorem kX4_readNot_31 : CallAt mX4_readNot 31 0 mX4_readLink 2 := ⟨by decide +kernel, ⟨_, (by decide +kernel : decode cX4_readNot 31 = .ok (.invokevirtual 146, 3)), w_450, w_452, w_5⟩⟩
theorem kX4_readNot_40 : CallAt mX4_readNot 40 0 mX4_emit 1 := ⟨by decide +kernel, ⟨_, (by decide +kernel : decode cX4_readNot 40 = .ok (.invokevirtual 152, 3)), w_458, w_460, w_7⟩⟩
theorem kX4_readNot_55 : CallAt mX4_readNot 55 0 mX4_readChain 2 := ⟨by decide +kernel, ⟨_, (by decide +kernel : decode cX4_readNot 55 = .ok (.invokevirtual 143, 3)), w_446, w_448, w_4⟩⟩
theorem kX4_readNot_64 : CallAt mX4_readNot 64 0 mX4_sign 0 := ⟨by decide +kernel, ⟨_, (by decide +kernel : decode cX4_readNot 64 = .ok (.invokevirtual 43, 3)), w_442, w_444, w_3⟩⟩
theorem kX4_readNot_95 : CallAt mX4_readNot 95 0 mX4_readChain 2 := ⟨by decide +kernel, ⟨_, (by decide +kernel : decode cX4_readNot 95 = .ok (.invokevirtual 143, 3)), w_446, w_448, w_4⟩⟩
theorem kX4_readNot_103 : CallAt mX4_readNot 103 0 mX4_emit 1 := ⟨by decide +kernel, ⟨_, (by decide +kernel : decode cX4_readNot 103 = .ok (.invokevirtual 152, 3)), w_458, w_460, w_7⟩⟩

set_option maxRecDepth 20000 in
theorem GX4_readOne : Good mX4_readOne := ⟨by decide +kernel, List.mem_of_getElem? (i := 465) (by decide +kernel), inX4, ⟨by decide +kernel, by decide +kernel⟩, by decide, show ∀ q ∈ tX4_readOne, Snd mX4_readOne q.1 q.2 from
  sndC (sd_aload_n (hi := rfl) (hd := (by decide +kernel : decode cX4_readOne 0 = .ok (.aload_n 0, 1)))) (
   sndC (sd_istore_n (hi := rfl) (hd := (by decide +kernel : decode cX4_readOne 4 = .ok (.istore_n 2, 1)))) (
   sndC (sd_iload_n (hi := rfl) (hd := (by decide +kernel : decode cX4_readOne 5 = .ok (.iload_n 2, 1)))) (
   sndC (sd_if_eq (ht := by decide) (hd := (by decide +kernel : decode cX4_readOne 9 = .ok (.ifCond .eq 19, 3)))) (
   sndC (sd_aload_n (hi := rfl) (hd := (by decide +kernel : decode cX4_readOne 12 = .ok (.aload_n 0, 1)))) (
   sndC (sd_dup (hd := (by decide +kernel : decode cX4_readOne 13 = .ok (.dup, 1)))) (
   sndC (sd_get (C := RX4) (T := TX4) (N := 6) (hc := rfl) (hin0 := iX4) (hk := by decide) (hlink := w_163) (hd := (by decide +kernel : decode cX4_readOne 14 = .ok (.getfield 30, 3)))) (
   sndC (sd_iconst (hd := (by decide +kernel : decode cX4_readOne 17 = .ok (.iconst 1, 1))) (hv := by decide)) (
   sndC (sd_iadd (hd := (by decide +kernel : decode cX4_readOne 18 = .ok (.iadd, 1)))) (
   sndC (sd_putI (C := RX4) (T := TX4) (N := 6) (hc := rfl) (hin0 := iX4) (hk := by decide) (hlink := w_163) (ty0 := tyX4) (hty := tyX4_ok) (hnm := nmX4) (hfin := rfl) (hi := rfl) (hd := (by decide +kernel : decode cX4_readOne 19 = .ok (.putfield 30, 3)))) (
   sndC (sd_aload_n (hi := rfl) (hd := (by decide +kernel : decode cX4_readOne 22 = .ok (.aload_n 0, 1)))) (
   sndC (sd_iload_n (hi := rfl) (hd := (by decide +kernel : decode cX4_readOne 23 = .ok (.iload_n 2, 1)))) (
   sndC (sd_iload_n (hi := rfl) (hd := (by decide +kernel : decode cX4_readOne 28 = .ok (.iload_n 2, 1)))) (
   sndC (sd_bipush (hd := (by decide +kernel : decode cX4_readOne 29 = .ok (.bipush (-17), 2))) (hv := by decide)) (
   sndC (sd_cmp_eq (ht := by decide) (hd := (by decide +kernel : decode cX4_readOne 31 = .ok (.if_icmp .eq 9, 3)))) (
   sndC (sd_iload_n (hi := rfl) (hd := (by decide +kernel : decode cX4_readOne 34 = .ok (.iload_n 2, 1)))) (
   sndC (sd_bipush (hd := (by decide +kernel : decode cX4_readOne 35 = .ok (.bipush (-13), 2))) (hv := by decide)) (
   sndC (sd_cmp_ne (ht := by decide) (hd := (by decide +kernel : decode cX4_readOne 37 = .ok (.if_icmp .ne 8, 3)))) (
   sndC (sd_iload_n (hi := rfl) (hd := (by decide +kernel : decode cX4_readOne 40 = .ok (.iload_n 1, 1)))) (
   sndC (sd_iconst (hd := (by decide +kernel : decode cX4_readOne 41 = .ok (.iconst 5, 1))) (hv := by decide)) (
   sndC (sd_cmp_lt (ht := by decide) (hd := (by decide +kernel : decode cX4_readOne 42 = .ok (.if_icmp .lt 5, 3)))) (
   sndC (sd_iconst (hd := (by decide +kernel : decode cX4_readOne 45 = .ok (.iconst 0, 1))) (hv := by decide)) (
   sndC (sd_aload_n (hi := rfl) (hd := (by decide +kernel : decode cX4_readOne 47 = .ok (.aload_n 0, 1)))) (
   sndC (sd_dup (hd := (by decide +kernel : decode cX4_readOne 48 = .ok (.dup, 1)))) (
   sndC (sd_get (C := RX4) (T := TX4) (N := 6) (hc := rfl) (hin0 := iX4) (hk := by decide) (hlink := w_163) (hd := (by decide +kernel : decode cX4_readOne 49 = .ok (.getfield 30, 3)))) (
   sndC (sd_iconst (hd := (by decide +kernel : decode cX4_readOne 52 = .ok (.iconst 1, 1))) (hv := by decide)) (
   sndC (sd_iadd (hd := (by decide +kernel : decode cX4_readOne 53 = .ok (.iadd, 1)))) (
   sndC (sd_putI (C := RX4) (T := TX4) (N := 6) (hc := rfl) (hin0 := iX4) (hk := by decide) (hlink := w_163) (ty0 := tyX4) (hty := tyX4_ok) (hnm := nmX4) (hfin := rfl) (hi := rfl) (hd := (by decide +kernel : decode cX4_readOne 54 = .ok (.putfield 30, 3)))) (
   sndC (sd_iload_n (hi := rfl) (hd := (by decide +kernel : decode cX4_readOne 57 = .ok (.iload_n 2, 1)))) (
   sndC (sd_bipush (hd := (by decide +kernel : decode cX4_readOne 58 = .ok (.bipush (-17), 2))) (hv := by decide)) (
   sndC (sd_cmp_ne (ht := by decide) (hd := (by decide +kernel : decode cX4_readOne 60 = .ok (.if_icmp .ne 29, 3)))) (
   sndC (sd_aload_n (hi := rfl) (hd := (by decide +kernel : decode cX4_readOne 63 = .ok (.aload_n 0, 1)))) (
   sndC (sd_iconst (hd := (by decide +kernel : decode cX4_readOne 64 = .ok (.iconst 3, 1))) (hv := by decide)) (
   sndC (sd_iload_n (hi := rfl) (hd := (by decide +kernel : decode cX4_readOne 65 = .ok (.iload_n 1, 1)))) (
   sndC (sd_iconst (hd := (by decide +kernel : decode cX4_readOne 66 = .ok (.iconst 1, 1))) (hv := by decide)) (
   sndC (sd_iadd (hd := (by decide +kernel : decode cX4_readOne 67 = .ok (.iadd, 1)))) (
   sndC (sd_if_eq (ht := by decide) (hd := (by decide +kernel : decode cX4_readOne 71 = .ok (.ifCond .eq 16, 3)))) (
   sndC (sd_aload_n (hi := rfl) (hd := (by decide +kernel : decode cX4_readOne 74 = .ok (.aload_n 0, 1)))) (
   sndC (sd_bipush (hd := (by decide +kernel : decode cX4_readOne 75 = .ok (.bipush (-21), 2))) (hv := by decide)) (
   sndC (sd_if_eq (ht := by decide) (hd := (by decide +kernel : decode cX4_readOne 80 = .ok (.ifCond .eq 7, 3)))) (
   sndC (sd_iconst (hd := (by decide +kernel : decode cX4_readOne 83 = .ok (.iconst 1, 1))) (hv := by decide)) (
   sndC (sd_goto (ht := by decide) (hd := (by decide +kernel : decode cX4_readOne 84 = .ok (.goto 4, 3)))) (
   sndC (sd_iconst (hd := (by decide +kernel : decode cX4_readOne 87 = .ok (.iconst 0, 1))) (hv := by decide)) (
   sndC (sd_aload_n (hi := rfl) (hd := (by decide +kernel : decode cX4_readOne 89 = .ok (.aload_n 0, 1)))) (
   sndC (sd_iconst (hd := (by decide +kernel : decode cX4_readOne 90 = .ok (.iconst 0, 1))) (hv := by decide)) (
   sndC (sd_iload_n (hi := rfl) (hd := (by decide +kernel : decode cX4_readOne 91 = .ok (.iload_n 1, 1)))) (
   sndC (sd_iconst (hd := (by decide +kernel : decode cX4_readOne 92 = .ok (.iconst 1, 1))) (hv := by decide)) (
   sndC (sd_iadd (hd := (by decide +kernel : decode cX4_readOne 93 = .ok (.iadd, 1)))) (
   sndC (sd_if_eq (ht := by decide) (hd := (by decide +kernel : decode cX4_readOne 97 = .ok (.ifCond .eq 16, 3)))) (
   sndC (sd_aload_n (hi := rfl) (hd := (by decide +kernel : decode cX4_readOne 100 = .ok (.aload_n 0, 1)))) (
   sndC (sd_bipush (hd := (by decide +kernel : decode cX4_readOne 101 = .ok (.bipush (-14), 2))) (hv := by decide)) (
   sndC (sd_if_eq (ht := by decide) (hd := (by decide +kernel : decode cX4_readOne 106 = .ok (.ifCond .eq 7, 3)))) (
   sndC (sd_iconst (hd := (by decide +kernel : decode cX4_readOne 109 = .ok (.iconst 1, 1))) (hv := by decide)) (
   sndC (sd_goto (ht := by decide) (hd := (by decide +kernel : decode cX4_readOne 110 = .ok (.goto 4, 3)))) (
   sndC (sd_iconst (hd := (by decide +kernel : decode cX4_readOne 113 = .ok (.iconst 0, 1))) (hv := by decide)) (
   sndN)))))))))))))))))))))))))))))))))))))))))))))))))))))))⟩
theorem kX4_readOne_1 : CallAt mX4_readOne 1 0 mX4_sign 0 := ⟨by decide +kernel, ⟨_, (by decide +kernel : decode cX4_readOne 1 = .ok (.invokevirtual 43, 3)), w_442, w_444, w_3⟩⟩
theorem kX4_readOne_6 : CallAt mX4_readOne 6 1 mX7_isValue 1 := ⟨by decide +kernel, ⟨_, (by decide +kernel : decode cX4_readOne 6 = .ok (.invokestatic 161, 3)), w_466, w_467⟩⟩
theorem kX4_readOne_24 : CallAt mX4_readOne 24 0 mX4_emit 1 := ⟨by decide +kernel, ⟨_, (by decide +kernel : decode cX4_readOne 24 = .ok (.invokevirtual 152, 3)), w_458, w_460, w_7⟩⟩
theorem kX4_readOne_68 : CallAt mX4_readOne 68 0 mX4_readLink 2 := ⟨by decide +kernel, ⟨_, (by decide +kernel : decode cX4_readOne 68 = .ok (.invokevirtual 146, 3)), w_450, w_452, w_5⟩⟩
theorem kX4_readOne_77 : CallAt mX4_readOne 77 0 mX4_emit 1 := ⟨by decide +kernel, ⟨_, (by decide +kernel : decode cX4_readOne 77 = .ok (.invokevirtual 152, 3)), w_458, w_460, w_7⟩⟩
theorem kX4_readOne_94 : CallAt mX4_readOne 94 0 mX4_readChain 2 := ⟨by decide +kernel, ⟨_, (by decide +kernel : decode cX4_readOne 94 = .ok (.invokevirtual 143, 3)), w_446, w_448, w_4⟩⟩
theorem kX4_readOne_103 : CallAt mX4_readOne 103 0 mX4_take 1 := ⟨by decide +kernel, ⟨_, (by decide +kernel : decode cX4_readOne 103 = .ok (.invokevirtual 139, 3)), w_438, w_440, w_2⟩⟩
