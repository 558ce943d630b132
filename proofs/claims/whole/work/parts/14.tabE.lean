/-! ===== printed by program: words, tables of the methods, call sites ===== -/
set_option maxRecDepth 20000 in
theorem GX11_atom5 : Good mX11_atom5 := ⟨by decide +kernel, List.mem_of_getElem? (i := 1263) (by decide +kernel), inX11, ⟨by decide +kernel, by decide +kernel⟩, by decide, show ∀ q ∈ tX11_atom5, Snd mX11_atom5 q.1 q.2 from
  sndC (sd_iconst (hd := (by decide +kernel : decode cX11_atom5 0 = .ok (.iconst 0, 1))) (hv := by decide)) (
   sndC (sd_istore_n (hi := rfl) (hd := (by decide +kernel : decode cX11_atom5 1 = .ok (.istore_n 1, 1)))) (
   sndC (sd_aload_n (hi := rfl) (hd := (by decide +kernel : decode cX11_atom5 2 = .ok (.aload_n 0, 1)))) (
   sndC (sd_bipush (hd := (by decide +kernel : decode cX11_atom5 3 = .ok (.bipush 45, 2))) (hv := by decide)) (
   sndC (sd_if_eq (ht := by decide) (hd := (by decide +kernel : decode cX11_atom5 8 = .ok (.ifCond .eq 11, 3)))) (
   sndC (sd_aload_n (hi := rfl) (hd := (by decide +kernel : decode cX11_atom5 11 = .ok (.aload_n 0, 1)))) (
   sndC (sd_pop (hd := (by decide +kernel : decode cX11_atom5 15 = .ok (.pop, 1)))) (
   sndC (sd_goto (ht := by decide) (hd := (by decide +kernel : decode cX11_atom5 16 = .ok (.goto 86, 3)))) (
   sndC (sd_aload_n (hi := rfl) (hd := (by decide +kernel : decode cX11_atom5 19 = .ok (.aload_n 0, 1)))) (
   sndC (sd_bipush (hd := (by decide +kernel : decode cX11_atom5 20 = .ok (.bipush 40, 2))) (hv := by decide)) (
   sndC (sd_if_eq (ht := by decide) (hd := (by decide +kernel : decode cX11_atom5 25 = .ok (.ifCond .eq 11, 3)))) (
   sndC (sd_aload_n (hi := rfl) (hd := (by decide +kernel : decode cX11_atom5 28 = .ok (.aload_n 0, 1)))) (
   sndC (sd_pop (hd := (by decide +kernel : decode cX11_atom5 32 = .ok (.pop, 1)))) (
   sndC (sd_goto (ht := by decide) (hd := (by decide +kernel : decode cX11_atom5 33 = .ok (.goto 69, 3)))) (
   sndC (sd_aload_n (hi := rfl) (hd := (by decide +kernel : decode cX11_atom5 36 = .ok (.aload_n 0, 1)))) (
   sndC (sd_get (C := RX11) (T := TX11) (N := 41) (hc := rfl) (hin0 := iX11) (hk := by decide) (hlink := w_1039) (hd := (by decide +kernel : decode cX11_atom5 37 = .ok (.getfield 167, 3)))) (
   sndC (sd_if_ne (ht := by decide) (hd := (by decide +kernel : decode cX11_atom5 40 = .ok (.ifCond .ne 24, 3)))) (
   sndC (sd_aload_n (hi := rfl) (hd := (by decide +kernel : decode cX11_atom5 43 = .ok (.aload_n 0, 1)))) (
   sndC (sd_get (C := RX11) (T := TX11) (N := 41) (hc := rfl) (hin0 := iX11) (hk := by decide) (hlink := w_1035) (hd := (by decide +kernel : decode cX11_atom5 44 = .ok (.getfield 152, 3)))) (
   sndC (sd_iconst (hd := (by decide +kernel : decode cX11_atom5 47 = .ok (.iconst 2, 1))) (hv := by decide)) (
   sndC (sd_cmp_ne (ht := by decide) (hd := (by decide +kernel : decode cX11_atom5 48 = .ok (.if_icmp .ne 16, 3)))) (
   sndC (sd_aload_n (hi := rfl) (hd := (by decide +kernel : decode cX11_atom5 51 = .ok (.aload_n 0, 1)))) (
   sndC (sd_get (C := RX11) (T := TX11) (N := 41) (hc := rfl) (hin0 := iX11) (hk := by decide) (hlink := w_1037) (hd := (by decide +kernel : decode cX11_atom5 52 = .ok (.getfield 163, 3)))) (
   sndC (sd_l2i (hd := (by decide +kernel : decode cX11_atom5 55 = .ok (.l2i, 1)))) (
   sndC (sd_istore_n (hi := rfl) (hd := (by decide +kernel : decode cX11_atom5 56 = .ok (.istore_n 1, 1)))) (
   sndC (sd_aload_n (hi := rfl) (hd := (by decide +kernel : decode cX11_atom5 57 = .ok (.aload_n 0, 1)))) (
   sndC (sd_goto (ht := by decide) (hd := (by decide +kernel : decode cX11_atom5 61 = .ok (.goto 41, 3)))) (
   sndC (sd_aload_n (hi := rfl) (hd := (by decide +kernel : decode cX11_atom5 64 = .ok (.aload_n 0, 1)))) (
   sndC (sd_get (C := RX11) (T := TX11) (N := 41) (hc := rfl) (hin0 := iX11) (hk := by decide) (hlink := w_1039) (hd := (by decide +kernel : decode cX11_atom5 65 = .ok (.getfield 167, 3)))) (
   sndC (sd_if_ne (ht := by decide) (hd := (by decide +kernel : decode cX11_atom5 68 = .ok (.ifCond .ne 30, 3)))) (
   sndC (sd_aload_n (hi := rfl) (hd := (by decide +kernel : decode cX11_atom5 71 = .ok (.aload_n 0, 1)))) (
   sndC (sd_get (C := RX11) (T := TX11) (N := 41) (hc := rfl) (hin0 := iX11) (hk := by decide) (hlink := w_1035) (hd := (by decide +kernel : decode cX11_atom5 72 = .ok (.getfield 152, 3)))) (
   sndC (sd_iconst (hd := (by decide +kernel : decode cX11_atom5 75 = .ok (.iconst 1, 1))) (hv := by decide)) (
   sndC (sd_cmp_ne (ht := by decide) (hd := (by decide +kernel : decode cX11_atom5 76 = .ok (.if_icmp .ne 22, 3)))) (
   sndC (sd_aload_n (hi := rfl) (hd := (by decide +kernel : decode cX11_atom5 79 = .ok (.aload_n 0, 1)))) (
   sndC (sd_istore_n (hi := rfl) (hd := (by decide +kernel : decode cX11_atom5 83 = .ok (.istore_n 1, 1)))) (
   sndC (sd_aload_n (hi := rfl) (hd := (by decide +kernel : decode cX11_atom5 84 = .ok (.aload_n 0, 1)))) (
   sndC (sd_get (C := RX11) (T := TX11) (N := 41) (hc := rfl) (hin0 := iX11) (hk := by decide) (hlink := w_1039) (hd := (by decide +kernel : decode cX11_atom5 85 = .ok (.getfield 167, 3)))) (
   sndC (sd_if_ne (ht := by decide) (hd := (by decide +kernel : decode cX11_atom5 88 = .ok (.ifCond .ne 14, 3)))) (
   sndC (sd_aload_n (hi := rfl) (hd := (by decide +kernel : decode cX11_atom5 91 = .ok (.aload_n 0, 1)))) (
   sndC (sd_goto (ht := by decide) (hd := (by decide +kernel : decode cX11_atom5 95 = .ok (.goto 7, 3)))) (
   sndC (sd_aload_n (hi := rfl) (hd := (by decide +kernel : decode cX11_atom5 98 = .ok (.aload_n 0, 1)))) (
   sndC (sd_iload_n (hi := rfl) (hd := (by decide +kernel : decode cX11_atom5 102 = .ok (.iload_n 1, 1)))) (
   sndN)))))))))))))))))))))))))))))))))))))))))))⟩
theorem kX11_atom5_5 : CallAt mX11_atom5 5 0 mX11_isSign 1 := ⟨by decide +kernel, ⟨_, (by decide +kernel : decode cX11_atom5 5 = .ok (.invokevirtual 208, 3)), w_1264, w_1266, w_71⟩⟩
theorem kX11_atom5_12 : CallAt mX11_atom5 12 0 mX11_opens 0 := ⟨by decide +kernel, ⟨_, (by decide +kernel : decode cX11_atom5 12 = .ok (.invokevirtual 211, 3)), w_1228, w_1230, w_62⟩⟩
theorem kX11_atom5_22 : CallAt mX11_atom5 22 0 mX11_isSign 1 := ⟨by decide +kernel, ⟨_, (by decide +kernel : decode cX11_atom5 22 = .ok (.invokevirtual 208, 3)), w_1264, w_1266, w_71⟩⟩
theorem kX11_atom5_29 : CallAt mX11_atom5 29 0 mX11_opens 0 := ⟨by decide +kernel, ⟨_, (by decide +kernel : decode cX11_atom5 29 = .ok (.invokevirtual 211, 3)), w_1228, w_1230, w_62⟩⟩
theorem kX11_atom5_58 : CallAt mX11_atom5 58 0 mX11_nextToken 0 := ⟨by decide +kernel, ⟨_, (by decide +kernel : decode cX11_atom5 58 = .ok (.invokevirtual 183, 3)), w_1188, w_1190, w_53⟩⟩
theorem kX11_atom5_80 : CallAt mX11_atom5 80 0 mX11_name 0 := ⟨by decide +kernel, ⟨_, (by decide +kernel : decode cX11_atom5 80 = .ok (.invokevirtual 215, 3)), w_1268, w_1270, w_72⟩⟩
theorem kX11_atom5_92 : CallAt mX11_atom5 92 0 mX11_nextToken 0 := ⟨by decide +kernel, ⟨_, (by decide +kernel : decode cX11_atom5 92 = .ok (.invokevirtual 183, 3)), w_1188, w_1190, w_53⟩⟩
theorem kX11_atom5_99 : CallAt mX11_atom5 99 0 mX11_fail 0 := ⟨by decide +kernel, ⟨_, (by decide +kernel : decode cX11_atom5 99 = .ok (.invokevirtual 180, 3)), w_1212, w_1214, w_58⟩⟩

set_option maxRecDepth 20000 in
theorem GX11_term5 : Good mX11_term5 := ⟨by decide +kernel, List.mem_of_getElem? (i := 1259) (by decide +kernel), inX11, ⟨by decide +kernel, by decide +kernel⟩, by decide, show ∀ q ∈ tX11_term5, Snd mX11_term5 q.1 q.2 from
  sndC (sd_aload_n (hi := rfl) (hd := (by decide +kernel : decode cX11_term5 0 = .ok (.aload_n 0, 1)))) (
   sndC (sd_istore_n (hi := rfl) (hd := (by decide +kernel : decode cX11_term5 4 = .ok (.istore_n 1, 1)))) (
   sndC (sd_aload_n (hi := rfl) (hd := (by decide +kernel : decode cX11_term5 5 = .ok (.aload_n 0, 1)))) (
   sndC (sd_bipush (hd := (by decide +kernel : decode cX11_term5 6 = .ok (.bipush 42, 2))) (hv := by decide)) (
   sndC (sd_if_eq (ht := by decide) (hd := (by decide +kernel : decode cX11_term5 11 = .ok (.ifCond .eq 17, 3)))) (
   sndC (sd_aload_n (hi := rfl) (hd := (by decide +kernel : decode cX11_term5 14 = .ok (.aload_n 0, 1)))) (
   sndC (sd_iload_n (hi := rfl) (hd := (by decide +kernel : decode cX11_term5 18 = .ok (.iload_n 1, 1)))) (
   sndC (sd_aload_n (hi := rfl) (hd := (by decide +kernel : decode cX11_term5 19 = .ok (.aload_n 0, 1)))) (
   sndC (sd_imul (hd := (by decide +kernel : decode cX11_term5 23 = .ok (.imul, 1)))) (
   sndC (sd_istore_n (hi := rfl) (hd := (by decide +kernel : decode cX11_term5 24 = .ok (.istore_n 1, 1)))) (
   sndC (sd_goto (ht := by decide) (hd := (by decide +kernel : decode cX11_term5 25 = .ok (.goto (-20), 3)))) (
   sndC (sd_iload_n (hi := rfl) (hd := (by decide +kernel : decode cX11_term5 28 = .ok (.iload_n 1, 1)))) (
   sndN))))))))))))⟩
theorem kX11_term5_1 : CallAt mX11_term5 1 0 mX11_atom5 0 := ⟨by decide +kernel, ⟨_, (by decide +kernel : decode cX11_term5 1 = .ok (.invokevirtual 219, 3)), w_1260, w_1262, w_70⟩⟩
theorem kX11_term5_8 : CallAt mX11_term5 8 0 mX11_isSign 1 := ⟨by decide +kernel, ⟨_, (by decide +kernel : decode cX11_term5 8 = .ok (.invokevirtual 208, 3)), w_1264, w_1266, w_71⟩⟩
theorem kX11_term5_15 : CallAt mX11_term5 15 0 mX11_nextToken 0 := ⟨by decide +kernel, ⟨_, (by decide +kernel : decode cX11_term5 15 = .ok (.invokevirtual 183, 3)), w_1188, w_1190, w_53⟩⟩
theorem kX11_term5_20 : CallAt mX11_term5 20 0 mX11_atom5 0 := ⟨by decide +kernel, ⟨_, (by decide +kernel : decode cX11_term5 20 = .ok (.invokevirtual 219, 3)), w_1260, w_1262, w_70⟩⟩

set_option maxRecDepth 20000 in
theorem GX11_added5 : Good mX11_added5 := ⟨by decide +kernel, List.mem_of_getElem? (i := 1255) (by decide +kernel), inX11, ⟨by decide +kernel, by decide +kernel⟩, by decide, show ∀ q ∈ tX11_added5, Snd mX11_added5 q.1 q.2 from
  sndC (sd_aload_n (hi := rfl) (hd := (by decide +kernel : decode cX11_added5 0 = .ok (.aload_n 0, 1)))) (
   sndC (sd_istore_n (hi := rfl) (hd := (by decide +kernel : decode cX11_added5 4 = .ok (.istore_n 1, 1)))) (
   sndC (sd_aload_n (hi := rfl) (hd := (by decide +kernel : decode cX11_added5 5 = .ok (.aload_n 0, 1)))) (
   sndC (sd_bipush (hd := (by decide +kernel : decode cX11_added5 6 = .ok (.bipush 43, 2))) (hv := by decide)) (
   sndC (sd_if_ne (ht := by decide) (hd := (by decide +kernel : decode cX11_added5 11 = .ok (.ifCond .ne 12, 3)))) (
   sndC (sd_aload_n (hi := rfl) (hd := (by decide +kernel : decode cX11_added5 14 = .ok (.aload_n 0, 1)))) (
   sndC (sd_bipush (hd := (by decide +kernel : decode cX11_added5 15 = .ok (.bipush 45, 2))) (hv := by decide)) (
   sndC (sd_if_eq (ht := by decide) (hd := (by decide +kernel : decode cX11_added5 20 = .ok (.ifCond .eq 46, 3)))) (
   sndC (sd_aload_n (hi := rfl) (hd := (by decide +kernel : decode cX11_added5 23 = .ok (.aload_n 0, 1)))) (
   sndC (sd_get (C := RX11) (T := TX11) (N := 41) (hc := rfl) (hin0 := iX11) (hk := by decide) (hlink := w_1037) (hd := (by decide +kernel : decode cX11_added5 24 = .ok (.getfield 163, 3)))) (
   sndC (sd_ldc2 (hw := w_1272) (hd := (by decide +kernel : decode cX11_added5 27 = .ok (.ldc2_w 225, 3)))) (
   sndC (sd_lcmp (hd := (by decide +kernel : decode cX11_added5 30 = .ok (.lcmp, 1)))) (
   sndC (sd_if_ne (ht := by decide) (hd := (by decide +kernel : decode cX11_added5 31 = .ok (.ifCond .ne 7, 3)))) (
   sndC (sd_iconst (hd := (by decide +kernel : decode cX11_added5 34 = .ok (.iconst 1, 1))) (hv := by decide)) (
   sndC (sd_goto (ht := by decide) (hd := (by decide +kernel : decode cX11_added5 35 = .ok (.goto 4, 3)))) (
   sndC (sd_iconst (hd := (by decide +kernel : decode cX11_added5 38 = .ok (.iconst 0, 1))) (hv := by decide)) (
   sndC (sd_istore_n (hi := rfl) (hd := (by decide +kernel : decode cX11_added5 39 = .ok (.istore_n 2, 1)))) (
   sndC (sd_aload_n (hi := rfl) (hd := (by decide +kernel : decode cX11_added5 40 = .ok (.aload_n 0, 1)))) (
   sndC (sd_aload_n (hi := rfl) (hd := (by decide +kernel : decode cX11_added5 44 = .ok (.aload_n 0, 1)))) (
   sndC (sd_istore_n (hi := rfl) (hd := (by decide +kernel : decode cX11_added5 48 = .ok (.istore_n 3, 1)))) (
   sndC (sd_iload_n (hi := rfl) (hd := (by decide +kernel : decode cX11_added5 49 = .ok (.iload_n 2, 1)))) (
   sndC (sd_if_eq (ht := by decide) (hd := (by decide +kernel : decode cX11_added5 50 = .ok (.ifCond .eq 9, 3)))) (
   sndC (sd_iload_n (hi := rfl) (hd := (by decide +kernel : decode cX11_added5 53 = .ok (.iload_n 1, 1)))) (
   sndC (sd_iload_n (hi := rfl) (hd := (by decide +kernel : decode cX11_added5 54 = .ok (.iload_n 3, 1)))) (
   sndC (sd_iadd (hd := (by decide +kernel : decode cX11_added5 55 = .ok (.iadd, 1)))) (
   sndC (sd_goto (ht := by decide) (hd := (by decide +kernel : decode cX11_added5 56 = .ok (.goto 6, 3)))) (
   sndC (sd_iload_n (hi := rfl) (hd := (by decide +kernel : decode cX11_added5 59 = .ok (.iload_n 1, 1)))) (
   sndC (sd_iload_n (hi := rfl) (hd := (by decide +kernel : decode cX11_added5 60 = .ok (.iload_n 3, 1)))) (
   sndC (sd_isub (hd := (by decide +kernel : decode cX11_added5 61 = .ok (.isub, 1)))) (
   sndC (sd_istore_n (hi := rfl) (hd := (by decide +kernel : decode cX11_added5 62 = .ok (.istore_n 1, 1)))) (
   sndC (sd_goto (ht := by decide) (hd := (by decide +kernel : decode cX11_added5 63 = .ok (.goto (-58), 3)))) (
   sndC (sd_iload_n (hi := rfl) (hd := (by decide +kernel : decode cX11_added5 66 = .ok (.iload_n 1, 1)))) (
   sndN))))))))))))))))))))))))))))))))⟩
theorem kX11_added5_1 : CallAt mX11_added5 1 0 mX11_term5 0 := ⟨by decide +kernel, ⟨_, (by decide +kernel : decode cX11_added5 1 = .ok (.invokevirtual 222, 3)), w_1256, w_1258, w_69⟩⟩
theorem kX11_added5_8 : CallAt mX11_added5 8 0 mX11_isSign 1 := ⟨by decide +kernel, ⟨_, (by decide +kernel : decode cX11_added5 8 = .ok (.invokevirtual 208, 3)), w_1264, w_1266, w_71⟩⟩
theorem kX11_added5_17 : CallAt mX11_added5 17 0 mX11_isSign 1 := ⟨by decide +kernel, ⟨_, (by decide +kernel : decode cX11_added5 17 = .ok (.invokevirtual 208, 3)), w_1264, w_1266, w_71⟩⟩
theorem kX11_added5_41 : CallAt mX11_added5 41 0 mX11_nextToken 0 := ⟨by decide +kernel, ⟨_, (by decide +kernel : decode cX11_added5 41 = .ok (.invokevirtual 183, 3)), w_1188, w_1190, w_53⟩⟩
theorem kX11_added5_45 : CallAt mX11_added5 45 0 mX11_term5 0 := ⟨by decide +kernel, ⟨_, (by decide +kernel : decode cX11_added5 45 = .ok (.invokevirtual 222, 3)), w_1256, w_1258, w_69⟩⟩

set_option maxRecDepth 20000 in
theorem GX11_not5 : Good mX11_not5 := ⟨by decide +kernel, List.mem_of_getElem? (i := 1251) (by decide +kernel), inX11, ⟨by decide +kernel, by decide +kernel⟩, by decide, show ∀ q ∈ tX11_not5, Snd mX11_not5 q.1 q.2 from
  sndC (sd_aload_n (hi := rfl) (hd := (by decide +kernel : decode cX11_not5 0 = .ok (.aload_n 0, 1)))) (
   sndC (sd_bipush (hd := (by decide +kernel : decode cX11_not5 1 = .ok (.bipush 110, 2))) (hv := by decide)) (
   sndC (sd_bipush (hd := (by decide +kernel : decode cX11_not5 3 = .ok (.bipush 111, 2))) (hv := by decide)) (
   sndC (sd_bipush (hd := (by decide +kernel : decode cX11_not5 5 = .ok (.bipush 116, 2))) (hv := by decide)) (
   sndC (sd_iconst (hd := (by decide +kernel : decode cX11_not5 7 = .ok (.iconst 0, 1))) (hv := by decide)) (
   sndC (sd_iconst (hd := (by decide +kernel : decode cX11_not5 8 = .ok (.iconst 0, 1))) (hv := by decide)) (
   sndC (sd_iconst (hd := (by decide +kernel : decode cX11_not5 9 = .ok (.iconst 0, 1))) (hv := by decide)) (
   sndC (sd_iconst (hd := (by decide +kernel : decode cX11_not5 10 = .ok (.iconst 0, 1))) (hv := by decide)) (
   sndC (sd_iconst (hd := (by decide +kernel : decode cX11_not5 11 = .ok (.iconst 0, 1))) (hv := by decide)) (
   sndC (sd_if_eq (ht := by decide) (hd := (by decide +kernel : decode cX11_not5 15 = .ok (.ifCond .eq 10, 3)))) (
   sndC (sd_aload_n (hi := rfl) (hd := (by decide +kernel : decode cX11_not5 18 = .ok (.aload_n 0, 1)))) (
   sndC (sd_pop (hd := (by decide +kernel : decode cX11_not5 22 = .ok (.pop, 1)))) (
   sndC (sd_iconst (hd := (by decide +kernel : decode cX11_not5 23 = .ok (.iconst 0, 1))) (hv := by decide)) (
   sndC (sd_aload_n (hi := rfl) (hd := (by decide +kernel : decode cX11_not5 25 = .ok (.aload_n 0, 1)))) (
   sndC (sd_istore_n (hi := rfl) (hd := (by decide +kernel : decode cX11_not5 29 = .ok (.istore_n 1, 1)))) (
   sndC (sd_aload_n (hi := rfl) (hd := (by decide +kernel : decode cX11_not5 30 = .ok (.aload_n 0, 1)))) (
   sndC (sd_bipush (hd := (by decide +kernel : decode cX11_not5 31 = .ok (.bipush 60, 2))) (hv := by decide)) (
   sndC (sd_if_ne (ht := by decide) (hd := (by decide +kernel : decode cX11_not5 36 = .ok (.ifCond .ne 14, 3)))) (
   sndC (sd_aload_n (hi := rfl) (hd := (by decide +kernel : decode cX11_not5 39 = .ok (.aload_n 0, 1)))) (
   sndC (sd_bipush (hd := (by decide +kernel : decode cX11_not5 40 = .ok (.bipush 61, 2))) (hv := by decide)) (
   sndC (sd_if_ne (ht := by decide) (hd := (by decide +kernel : decode cX11_not5 45 = .ok (.ifCond .ne 5, 3)))) (
   sndC (sd_iload_n (hi := rfl) (hd := (by decide +kernel : decode cX11_not5 48 = .ok (.iload_n 1, 1)))) (
   sndC (sd_aload_n (hi := rfl) (hd := (by decide +kernel : decode cX11_not5 50 = .ok (.aload_n 0, 1)))) (
   sndC (sd_get (C := RX11) (T := TX11) (N := 41) (hc := rfl) (hin0 := iX11) (hk := by decide) (hlink := w_1037) (hd := (by decide +kernel : decode cX11_not5 51 = .ok (.getfield 163, 3)))) (
   sndC (sd_ldc2 (hw := w_1273) (hd := (by decide +kernel : decode cX11_not5 54 = .ok (.ldc2_w 230, 3)))) (
   sndC (sd_lcmp (hd := (by decide +kernel : decode cX11_not5 57 = .ok (.lcmp, 1)))) (
   sndC (sd_if_ne (ht := by decide) (hd := (by decide +kernel : decode cX11_not5 58 = .ok (.ifCond .ne 7, 3)))) (
   sndC (sd_iconst (hd := (by decide +kernel : decode cX11_not5 61 = .ok (.iconst 1, 1))) (hv := by decide)) (
   sndC (sd_goto (ht := by decide) (hd := (by decide +kernel : decode cX11_not5 62 = .ok (.goto 4, 3)))) (
   sndC (sd_iconst (hd := (by decide +kernel : decode cX11_not5 65 = .ok (.iconst 0, 1))) (hv := by decide)) (
   sndC (sd_istore_n (hi := rfl) (hd := (by decide +kernel : decode cX11_not5 66 = .ok (.istore_n 2, 1)))) (
   sndC (sd_aload_n (hi := rfl) (hd := (by decide +kernel : decode cX11_not5 67 = .ok (.aload_n 0, 1)))) (
   sndC (sd_aload_n (hi := rfl) (hd := (by decide +kernel : decode cX11_not5 71 = .ok (.aload_n 0, 1)))) (
   sndC (sd_istore_n (hi := rfl) (hd := (by decide +kernel : decode cX11_not5 75 = .ok (.istore_n 3, 1)))) (
   sndC (sd_iload_n (hi := rfl) (hd := (by decide +kernel : decode cX11_not5 76 = .ok (.iload_n 2, 1)))) (
   sndC (sd_if_eq (ht := by decide) (hd := (by decide +kernel : decode cX11_not5 77 = .ok (.ifCond .eq 11, 3)))) (
   sndC (sd_iload_n (hi := rfl) (hd := (by decide +kernel : decode cX11_not5 80 = .ok (.iload_n 1, 1)))) (
   sndC (sd_iload_n (hi := rfl) (hd := (by decide +kernel : decode cX11_not5 81 = .ok (.iload_n 3, 1)))) (
   sndC (sd_cmp_ge (ht := by decide) (hd := (by decide +kernel : decode cX11_not5 82 = .ok (.if_icmp .ge 15, 3)))) (
   sndC (sd_goto (ht := by decide) (hd := (by decide +kernel : decode cX11_not5 85 = .ok (.goto 8, 3)))) (
   sndC (sd_iload_n (hi := rfl) (hd := (by decide +kernel : decode cX11_not5 88 = .ok (.iload_n 1, 1)))) (
   sndC (sd_iload_n (hi := rfl) (hd := (by decide +kernel : decode cX11_not5 89 = .ok (.iload_n 3, 1)))) (
   sndC (sd_cmp_ne (ht := by decide) (hd := (by decide +kernel : decode cX11_not5 90 = .ok (.if_icmp .ne 7, 3)))) (
   sndC (sd_iconst (hd := (by decide +kernel : decode cX11_not5 93 = .ok (.iconst 1, 1))) (hv := by decide)) (
   sndC (sd_goto (ht := by decide) (hd := (by decide +kernel : decode cX11_not5 94 = .ok (.goto 4, 3)))) (
   sndC (sd_iconst (hd := (by decide +kernel : decode cX11_not5 97 = .ok (.iconst 0, 1))) (hv := by decide)) (
   sndN))))))))))))))))))))))))))))))))))))))))))))))⟩
theorem kX11_not5_12 : CallAt mX11_not5 12 0 mX11_isWord 8 := ⟨by decide +kernel, ⟨_, (by decide +kernel : decode cX11_not5 12 = .ok (.invokevirtual 186, 3)), w_1200, w_1202, w_55⟩⟩
theorem kX11_not5_19 : CallAt mX11_not5 19 0 mX11_opens 0 := ⟨by decide +kernel, ⟨_, (by decide +kernel : decode cX11_not5 19 = .ok (.invokevirtual 211, 3)), w_1228, w_1230, w_62⟩⟩
theorem kX11_not5_26 : CallAt mX11_not5 26 0 mX11_added5 0 := ⟨by decide +kernel, ⟨_, (by decide +kernel : decode cX11_not5 26 = .ok (.invokevirtual 227, 3)), w_1252, w_1254, w_68⟩⟩
theorem kX11_not5_33 : CallAt mX11_not5 33 0 mX11_isSign 1 := ⟨by decide +kernel, ⟨_, (by decide +kernel : decode cX11_not5 33 = .ok (.invokevirtual 208, 3)), w_1264, w_1266, w_71⟩⟩
theorem kX11_not5_42 : CallAt mX11_not5 42 0 mX11_isSign 1 := ⟨by decide +kernel, ⟨_, (by decide +kernel : decode cX11_not5 42 = .ok (.invokevirtual 208, 3)), w_1264, w_1266, w_71⟩⟩
theorem kX11_not5_68 : CallAt mX11_not5 68 0 mX11_nextToken 0 := ⟨by decide +kernel, ⟨_, (by decide +kernel : decode cX11_not5 68 = .ok (.invokevirtual 183, 3)), w_1188, w_1190, w_53⟩⟩
theorem kX11_not5_72 : CallAt mX11_not5 72 0 mX11_added5 0 := ⟨by decide +kernel, ⟨_, (by decide +kernel : decode cX11_not5 72 = .ok (.invokevirtual 227, 3)), w_1252, w_1254, w_68⟩⟩

set_option maxRecDepth 20000 in
theorem GX11_both5 : Good mX11_both5 := ⟨by decide +kernel, List.mem_of_getElem? (i := 1293) (by decide +kernel), inX11, ⟨by decide +kernel, by decide +kernel⟩, by decide, show ∀ q ∈ tX11_both5, Snd mX11_both5 q.1 q.2 from
  sndC (sd_aload_n (hi := rfl) (hd := (by decide +kernel : decode cX11_both5 0 = .ok (.aload_n 0, 1)))) (
   sndC (sd_istore_n (hi := rfl) (hd := (by decide +kernel : decode cX11_both5 4 = .ok (.istore_n 1, 1)))) (
   sndC (sd_aload_n (hi := rfl) (hd := (by decide +kernel : decode cX11_both5 5 = .ok (.aload_n 0, 1)))) (
   sndC (sd_bipush (hd := (by decide +kernel : decode cX11_both5 6 = .ok (.bipush 97, 2))) (hv := by decide)) (
   sndC (sd_bipush (hd := (by decide +kernel : decode cX11_both5 8 = .ok (.bipush 110, 2))) (hv := by decide)) (
   sndC (sd_bipush (hd := (by decide +kernel : decode cX11_both5 10 = .ok (.bipush 100, 2))) (hv := by decide)) (
   sndC (sd_iconst (hd := (by decide +kernel : decode cX11_both5 12 = .ok (.iconst 0, 1))) (hv := by decide)) (
   sndC (sd_iconst (hd := (by decide +kernel : decode cX11_both5 13 = .ok (.iconst 0, 1))) (hv := by decide)) (
   sndC (sd_iconst (hd := (by decide +kernel : decode cX11_both5 14 = .ok (.iconst 0, 1))) (hv := by decide)) (
   sndC (sd_iconst (hd := (by decide +kernel : decode cX11_both5 15 = .ok (.iconst 0, 1))) (hv := by decide)) (
   sndC (sd_iconst (hd := (by decide +kernel : decode cX11_both5 16 = .ok (.iconst 0, 1))) (hv := by decide)) (
   sndC (sd_if_eq (ht := by decide) (hd := (by decide +kernel : decode cX11_both5 20 = .ok (.ifCond .eq 29, 3)))) (
   sndC (sd_aload_n (hi := rfl) (hd := (by decide +kernel : decode cX11_both5 23 = .ok (.aload_n 0, 1)))) (
   sndC (sd_aload_n (hi := rfl) (hd := (by decide +kernel : decode cX11_both5 27 = .ok (.aload_n 0, 1)))) (
   sndC (sd_istore_n (hi := rfl) (hd := (by decide +kernel : decode cX11_both5 31 = .ok (.istore_n 2, 1)))) (
   sndC (sd_iload_n (hi := rfl) (hd := (by decide +kernel : decode cX11_both5 32 = .ok (.iload_n 1, 1)))) (
   sndC (sd_if_eq (ht := by decide) (hd := (by decide +kernel : decode cX11_both5 33 = .ok (.ifCond .eq 11, 3)))) (
   sndC (sd_iload_n (hi := rfl) (hd := (by decide +kernel : decode cX11_both5 36 = .ok (.iload_n 2, 1)))) (
   sndC (sd_if_eq (ht := by decide) (hd := (by decide +kernel : decode cX11_both5 37 = .ok (.ifCond .eq 7, 3)))) (
   sndC (sd_iconst (hd := (by decide +kernel : decode cX11_both5 40 = .ok (.iconst 1, 1))) (hv := by decide)) (
   sndC (sd_goto (ht := by decide) (hd := (by decide +kernel : decode cX11_both5 41 = .ok (.goto 4, 3)))) (
   sndC (sd_iconst (hd := (by decide +kernel : decode cX11_both5 44 = .ok (.iconst 0, 1))) (hv := by decide)) (
   sndC (sd_istore_n (hi := rfl) (hd := (by decide +kernel : decode cX11_both5 45 = .ok (.istore_n 1, 1)))) (
   sndC (sd_goto (ht := by decide) (hd := (by decide +kernel : decode cX11_both5 46 = .ok (.goto (-41), 3)))) (
   sndC (sd_iload_n (hi := rfl) (hd := (by decide +kernel : decode cX11_both5 49 = .ok (.iload_n 1, 1)))) (
   sndN)))))))))))))))))))))))))⟩
theorem kX11_both5_1 : CallAt mX11_both5 1 0 mX11_not5 0 := ⟨by decide +kernel, ⟨_, (by decide +kernel : decode cX11_both5 1 = .ok (.invokevirtual 232, 3)), w_1248, w_1250, w_67⟩⟩
theorem kX11_both5_17 : CallAt mX11_both5 17 0 mX11_isWord 8 := ⟨by decide +kernel, ⟨_, (by decide +kernel : decode cX11_both5 17 = .ok (.invokevirtual 186, 3)), w_1200, w_1202, w_55⟩⟩
theorem kX11_both5_24 : CallAt mX11_both5 24 0 mX11_nextToken 0 := ⟨by decide +kernel, ⟨_, (by decide +kernel : decode cX11_both5 24 = .ok (.invokevirtual 183, 3)), w_1188, w_1190, w_53⟩⟩
theorem kX11_both5_28 : CallAt mX11_both5 28 0 mX11_not5 0 := ⟨by decide +kernel, ⟨_, (by decide +kernel : decode cX11_both5 28 = .ok (.invokevirtual 232, 3)), w_1248, w_1250, w_67⟩⟩

set_option maxRecDepth 20000 in
theorem GX11_either5 : Good mX11_either5 := ⟨by decide +kernel, List.mem_of_getElem? (i := 1289) (by decide +kernel), inX11, ⟨by decide +kernel, by decide +kernel⟩, by decide, show ∀ q ∈ tX11_either5, Snd mX11_either5 q.1 q.2 from
  sndC (sd_aload_n (hi := rfl) (hd := (by decide +kernel : decode cX11_either5 0 = .ok (.aload_n 0, 1)))) (
   sndC (sd_istore_n (hi := rfl) (hd := (by decide +kernel : decode cX11_either5 4 = .ok (.istore_n 1, 1)))) (
   sndC (sd_aload_n (hi := rfl) (hd := (by decide +kernel : decode cX11_either5 5 = .ok (.aload_n 0, 1)))) (
   sndC (sd_bipush (hd := (by decide +kernel : decode cX11_either5 6 = .ok (.bipush 111, 2))) (hv := by decide)) (
   sndC (sd_bipush (hd := (by decide +kernel : decode cX11_either5 8 = .ok (.bipush 114, 2))) (hv := by decide)) (
   sndC (sd_iconst (hd := (by decide +kernel : decode cX11_either5 10 = .ok (.iconst 0, 1))) (hv := by decide)) (
   sndC (sd_iconst (hd := (by decide +kernel : decode cX11_either5 11 = .ok (.iconst 0, 1))) (hv := by decide)) (
   sndC (sd_iconst (hd := (by decide +kernel : decode cX11_either5 12 = .ok (.iconst 0, 1))) (hv := by decide)) (
   sndC (sd_iconst (hd := (by decide +kernel : decode cX11_either5 13 = .ok (.iconst 0, 1))) (hv := by decide)) (
   sndC (sd_iconst (hd := (by decide +kernel : decode cX11_either5 14 = .ok (.iconst 0, 1))) (hv := by decide)) (
   sndC (sd_iconst (hd := (by decide +kernel : decode cX11_either5 15 = .ok (.iconst 0, 1))) (hv := by decide)) (
   sndC (sd_if_eq (ht := by decide) (hd := (by decide +kernel : decode cX11_either5 19 = .ok (.ifCond .eq 29, 3)))) (
   sndC (sd_aload_n (hi := rfl) (hd := (by decide +kernel : decode cX11_either5 22 = .ok (.aload_n 0, 1)))) (
   sndC (sd_aload_n (hi := rfl) (hd := (by decide +kernel : decode cX11_either5 26 = .ok (.aload_n 0, 1)))) (
   sndC (sd_istore_n (hi := rfl) (hd := (by decide +kernel : decode cX11_either5 30 = .ok (.istore_n 2, 1)))) (
   sndC (sd_iload_n (hi := rfl) (hd := (by decide +kernel : decode cX11_either5 31 = .ok (.iload_n 1, 1)))) (
   sndC (sd_if_ne (ht := by decide) (hd := (by decide +kernel : decode cX11_either5 32 = .ok (.ifCond .ne 7, 3)))) (
   sndC (sd_iload_n (hi := rfl) (hd := (by decide +kernel : decode cX11_either5 35 = .ok (.iload_n 2, 1)))) (
   sndC (sd_if_eq (ht := by decide) (hd := (by decide +kernel : decode cX11_either5 36 = .ok (.ifCond .eq 7, 3)))) (
   sndC (sd_iconst (hd := (by decide +kernel : decode cX11_either5 39 = .ok (.iconst 1, 1))) (hv := by decide)) (
   sndC (sd_goto (ht := by decide) (hd := (by decide +kernel : decode cX11_either5 40 = .ok (.goto 4, 3)))) (
   sndC (sd_iconst (hd := (by decide +kernel : decode cX11_either5 43 = .ok (.iconst 0, 1))) (hv := by decide)) (
   sndC (sd_istore_n (hi := rfl) (hd := (by decide +kernel : decode cX11_either5 44 = .ok (.istore_n 1, 1)))) (
   sndC (sd_goto (ht := by decide) (hd := (by decide +kernel : decode cX11_either5 45 = .ok (.goto (-40), 3)))) (
   sndC (sd_iload_n (hi := rfl) (hd := (by decide +kernel : decode cX11_either5 48 = .ok (.iload_n 1, 1)))) (
   sndN)))))))))))))))))))))))))⟩
theorem kX11_either5_1 : CallAt mX11_either5 1 0 mX11_both5 0 := ⟨by decide +kernel, ⟨_, (by decide +kernel : decode cX11_either5 1 = .ok (.invokevirtual 235, 3)), w_1290, w_1292, w_77⟩⟩
theorem kX11_either5_16 : CallAt mX11_either5 16 0 mX11_isWord 8 := ⟨by decide +kernel, ⟨_, (by decide +kernel : decode cX11_either5 16 = .ok (.invokevirtual 186, 3)), w_1200, w_1202, w_55⟩⟩
theorem kX11_either5_23 : CallAt mX11_either5 23 0 mX11_nextToken 0 := ⟨by decide +kernel, ⟨_, (by decide +kernel : decode cX11_either5 23 = .ok (.invokevirtual 183, 3)), w_1188, w_1190, w_53⟩⟩
theorem kX11_either5_27 : CallAt mX11_either5 27 0 mX11_both5 0 := ⟨by decide +kernel, ⟨_, (by decide +kernel : decode cX11_either5 27 = .ok (.invokevirtual 235, 3)), w_1290, w_1292, w_77⟩⟩

set_option maxRecDepth 20000 in
theorem GX11_atom4 : Good mX11_atom4 := ⟨by decide +kernel, List.mem_of_getElem? (i := 1285) (by decide +kernel), inX11, ⟨by decide +kernel, by decide +kernel⟩, by decide, show ∀ q ∈ tX11_atom4, Snd mX11_atom4 q.1 q.2 from
  sndC (sd_iconst (hd := (by decide +kernel : decode cX11_atom4 0 = .ok (.iconst 0, 1))) (hv := by decide)) (
   sndC (sd_istore_n (hi := rfl) (hd := (by decide +kernel : decode cX11_atom4 1 = .ok (.istore_n 1, 1)))) (
   sndC (sd_aload_n (hi := rfl) (hd := (by decide +kernel : decode cX11_atom4 2 = .ok (.aload_n 0, 1)))) (
   sndC (sd_bipush (hd := (by decide +kernel : decode cX11_atom4 3 = .ok (.bipush 45, 2))) (hv := by decide)) (
   sndC (sd_if_eq (ht := by decide) (hd := (by decide +kernel : decode cX11_atom4 8 = .ok (.ifCond .eq 29, 3)))) (
   sndC (sd_aload_n (hi := rfl) (hd := (by decide +kernel : decode cX11_atom4 11 = .ok (.aload_n 0, 1)))) (
   sndC (sd_if_eq (ht := by decide) (hd := (by decide +kernel : decode cX11_atom4 15 = .ok (.ifCond .eq 146, 3)))) (
   sndC (sd_aload_n (hi := rfl) (hd := (by decide +kernel : decode cX11_atom4 18 = .ok (.aload_n 0, 1)))) (
   sndC (sd_ineg (hd := (by decide +kernel : decode cX11_atom4 22 = .ok (.ineg, 1)))) (
   sndC (sd_istore_n (hi := rfl) (hd := (by decide +kernel : decode cX11_atom4 23 = .ok (.istore_n 1, 1)))) (
   sndC (sd_aload_n (hi := rfl) (hd := (by decide +kernel : decode cX11_atom4 24 = .ok (.aload_n 0, 1)))) (
   sndC (sd_dup (hd := (by decide +kernel : decode cX11_atom4 25 = .ok (.dup, 1)))) (
   sndC (sd_get (C := RX11) (T := TX11) (N := 41) (hc := rfl) (hin0 := iX11) (hk := by decide) (hlink := w_1038) (hd := (by decide +kernel : decode cX11_atom4 26 = .ok (.getfield 177, 3)))) (
   sndC (sd_iconst (hd := (by decide +kernel : decode cX11_atom4 29 = .ok (.iconst 1, 1))) (hv := by decide)) (
   sndC (sd_isub (hd := (by decide +kernel : decode cX11_atom4 30 = .ok (.isub, 1)))) (
   sndC (sd_putI (C := RX11) (T := TX11) (N := 41) (hc := rfl) (hin0 := iX11) (hk := by decide) (hlink := w_1038) (ty0 := tyX11) (hty := tyX11_ok) (hnm := nmX11) (hfin := rfl) (hi := rfl) (hd := (by decide +kernel : decode cX11_atom4 31 = .ok (.putfield 177, 3)))) (
   sndC (sd_goto (ht := by decide) (hd := (by decide +kernel : decode cX11_atom4 34 = .ok (.goto 127, 3)))) (
   sndC (sd_aload_n (hi := rfl) (hd := (by decide +kernel : decode cX11_atom4 37 = .ok (.aload_n 0, 1)))) (
   sndC (sd_bipush (hd := (by decide +kernel : decode cX11_atom4 38 = .ok (.bipush 40, 2))) (hv := by decide)) (
   sndC (sd_if_eq (ht := by decide) (hd := (by decide +kernel : decode cX11_atom4 43 = .ok (.ifCond .eq 52, 3)))) (
   sndC (sd_aload_n (hi := rfl) (hd := (by decide +kernel : decode cX11_atom4 46 = .ok (.aload_n 0, 1)))) (
   sndC (sd_if_eq (ht := by decide) (hd := (by decide +kernel : decode cX11_atom4 50 = .ok (.ifCond .eq 111, 3)))) (
   sndC (sd_aload_n (hi := rfl) (hd := (by decide +kernel : decode cX11_atom4 53 = .ok (.aload_n 0, 1)))) (
   sndC (sd_istore_n (hi := rfl) (hd := (by decide +kernel : decode cX11_atom4 57 = .ok (.istore_n 1, 1)))) (
   sndC (sd_aload_n (hi := rfl) (hd := (by decide +kernel : decode cX11_atom4 58 = .ok (.aload_n 0, 1)))) (
   sndC (sd_bipush (hd := (by decide +kernel : decode cX11_atom4 59 = .ok (.bipush 41, 2))) (hv := by decide)) (
   sndC (sd_if_ne (ht := by decide) (hd := (by decide +kernel : decode cX11_atom4 64 = .ok (.ifCond .ne 7, 3)))) (
   sndC (sd_aload_n (hi := rfl) (hd := (by decide +kernel : decode cX11_atom4 67 = .ok (.aload_n 0, 1)))) (
   sndC (sd_aload_n (hi := rfl) (hd := (by decide +kernel : decode cX11_atom4 71 = .ok (.aload_n 0, 1)))) (
   sndC (sd_dup (hd := (by decide +kernel : decode cX11_atom4 72 = .ok (.dup, 1)))) (
   sndC (sd_get (C := RX11) (T := TX11) (N := 41) (hc := rfl) (hin0 := iX11) (hk := by decide) (hlink := w_1038) (hd := (by decide +kernel : decode cX11_atom4 73 = .ok (.getfield 177, 3)))) (
   sndC (sd_iconst (hd := (by decide +kernel : decode cX11_atom4 76 = .ok (.iconst 1, 1))) (hv := by decide)) (
   sndC (sd_isub (hd := (by decide +kernel : decode cX11_atom4 77 = .ok (.isub, 1)))) (
   sndC (sd_putI (C := RX11) (T := TX11) (N := 41) (hc := rfl) (hin0 := iX11) (hk := by decide) (hlink := w_1038) (ty0 := tyX11) (hty := tyX11_ok) (hnm := nmX11) (hfin := rfl) (hi := rfl) (hd := (by decide +kernel : decode cX11_atom4 78 = .ok (.putfield 177, 3)))) (
   sndC (sd_aload_n (hi := rfl) (hd := (by decide +kernel : decode cX11_atom4 81 = .ok (.aload_n 0, 1)))) (
   sndC (sd_get (C := RX11) (T := TX11) (N := 41) (hc := rfl) (hin0 := iX11) (hk := by decide) (hlink := w_1039) (hd := (by decide +kernel : decode cX11_atom4 82 = .ok (.getfield 167, 3)))) (
   sndC (sd_if_ne (ht := by decide) (hd := (by decide +kernel : decode cX11_atom4 85 = .ok (.ifCond .ne 76, 3)))) (
   sndC (sd_aload_n (hi := rfl) (hd := (by decide +kernel : decode cX11_atom4 88 = .ok (.aload_n 0, 1)))) (
   sndC (sd_goto (ht := by decide) (hd := (by decide +kernel : decode cX11_atom4 92 = .ok (.goto 69, 3)))) (
   sndC (sd_aload_n (hi := rfl) (hd := (by decide +kernel : decode cX11_atom4 95 = .ok (.aload_n 0, 1)))) (
   sndC (sd_get (C := RX11) (T := TX11) (N := 41) (hc := rfl) (hin0 := iX11) (hk := by decide) (hlink := w_1039) (hd := (by decide +kernel : decode cX11_atom4 96 = .ok (.getfield 167, 3)))) (
   sndC (sd_if_ne (ht := by decide) (hd := (by decide +kernel : decode cX11_atom4 99 = .ok (.ifCond .ne 24, 3)))) (
   sndC (sd_aload_n (hi := rfl) (hd := (by decide +kernel : decode cX11_atom4 102 = .ok (.aload_n 0, 1)))) (
   sndC (sd_get (C := RX11) (T := TX11) (N := 41) (hc := rfl) (hin0 := iX11) (hk := by decide) (hlink := w_1035) (hd := (by decide +kernel : decode cX11_atom4 103 = .ok (.getfield 152, 3)))) (
   sndC (sd_iconst (hd := (by decide +kernel : decode cX11_atom4 106 = .ok (.iconst 2, 1))) (hv := by decide)) (
   sndC (sd_cmp_ne (ht := by decide) (hd := (by decide +kernel : decode cX11_atom4 107 = .ok (.if_icmp .ne 16, 3)))) (
   sndC (sd_aload_n (hi := rfl) (hd := (by decide +kernel : decode cX11_atom4 110 = .ok (.aload_n 0, 1)))) (
   sndC (sd_get (C := RX11) (T := TX11) (N := 41) (hc := rfl) (hin0 := iX11) (hk := by decide) (hlink := w_1037) (hd := (by decide +kernel : decode cX11_atom4 111 = .ok (.getfield 163, 3)))) (
   sndC (sd_l2i (hd := (by decide +kernel : decode cX11_atom4 114 = .ok (.l2i, 1)))) (
   sndC (sd_istore_n (hi := rfl) (hd := (by decide +kernel : decode cX11_atom4 115 = .ok (.istore_n 1, 1)))) (
   sndC (sd_aload_n (hi := rfl) (hd := (by decide +kernel : decode cX11_atom4 116 = .ok (.aload_n 0, 1)))) (
   sndC (sd_goto (ht := by decide) (hd := (by decide +kernel : decode cX11_atom4 120 = .ok (.goto 41, 3)))) (
   sndC (sd_aload_n (hi := rfl) (hd := (by decide +kernel : decode cX11_atom4 123 = .ok (.aload_n 0, 1)))) (
   sndC (sd_get (C := RX11) (T := TX11) (N := 41) (hc := rfl) (hin0 := iX11) (hk := by decide) (hlink := w_1039) (hd := (by decide +kernel : decode cX11_atom4 124 = .ok (.getfield 167, 3)))) (
   sndC (sd_if_ne (ht := by decide) (hd := (by decide +kernel : decode cX11_atom4 127 = .ok (.ifCond .ne 30, 3)))) (
   sndC (sd_aload_n (hi := rfl) (hd := (by decide +kernel : decode cX11_atom4 130 = .ok (.aload_n 0, 1)))) (
   sndC (sd_get (C := RX11) (T := TX11) (N := 41) (hc := rfl) (hin0 := iX11) (hk := by decide) (hlink := w_1035) (hd := (by decide +kernel : decode cX11_atom4 131 = .ok (.getfield 152, 3)))) (
   sndC (sd_iconst (hd := (by decide +kernel : decode cX11_atom4 134 = .ok (.iconst 1, 1))) (hv := by decide)) (
   sndC (sd_cmp_ne (ht := by decide) (hd := (by decide +kernel : decode cX11_atom4 135 = .ok (.if_icmp .ne 22, 3)))) (
   sndC (sd_aload_n (hi := rfl) (hd := (by decide +kernel : decode cX11_atom4 138 = .ok (.aload_n 0, 1)))) (
   sndC (sd_istore_n (hi := rfl) (hd := (by decide +kernel : decode cX11_atom4 142 = .ok (.istore_n 1, 1)))) (
   sndC (sd_aload_n (hi := rfl) (hd := (by decide +kernel : decode cX11_atom4 143 = .ok (.aload_n 0, 1)))) (
   sndC (sd_get (C := RX11) (T := TX11) (N := 41) (hc := rfl) (hin0 := iX11) (hk := by decide) (hlink := w_1039) (hd := (by decide +kernel : decode cX11_atom4 144 = .ok (.getfield 167, 3)))) (
   sndC (sd_if_ne (ht := by decide) (hd := (by decide +kernel : decode cX11_atom4 147 = .ok (.ifCond .ne 14, 3)))) (
   sndC (sd_aload_n (hi := rfl) (hd := (by decide +kernel : decode cX11_atom4 150 = .ok (.aload_n 0, 1)))) (
   sndC (sd_goto (ht := by decide) (hd := (by decide +kernel : decode cX11_atom4 154 = .ok (.goto 7, 3)))) (
   sndC (sd_aload_n (hi := rfl) (hd := (by decide +kernel : decode cX11_atom4 157 = .ok (.aload_n 0, 1)))) (
   sndC (sd_iload_n (hi := rfl) (hd := (by decide +kernel : decode cX11_atom4 161 = .ok (.iload_n 1, 1)))) (
   sndN))))))))))))))))))))))))))))))))))))))))))))))))))))))))))))))))))))⟩
theorem kX11_atom4_5 : CallAt mX11_atom4 5 0 mX11_isSign 1 := ⟨by decide +kernel, ⟨_, (by decide +kernel : decode cX11_atom4 5 = .ok (.invokevirtual 208, 3)), w_1264, w_1266, w_71⟩⟩
theorem kX11_atom4_12 : CallAt mX11_atom4 12 0 mX11_opens 0 := ⟨by decide +kernel, ⟨_, (by decide +kernel : decode cX11_atom4 12 = .ok (.invokevirtual 211, 3)), w_1228, w_1230, w_62⟩⟩
theorem kX11_atom4_19 : CallAt mX11_atom4 19 0 mX11_atom5 0 := ⟨by decide +kernel, ⟨_, (by decide +kernel : decode cX11_atom4 19 = .ok (.invokevirtual 219, 3)), w_1260, w_1262, w_70⟩⟩
theorem kX11_atom4_40 : CallAt mX11_atom4 40 0 mX11_isSign 1 := ⟨by decide +kernel, ⟨_, (by decide +kernel : decode cX11_atom4 40 = .ok (.invokevirtual 208, 3)), w_1264, w_1266, w_71⟩⟩
theorem kX11_atom4_47 : CallAt mX11_atom4 47 0 mX11_opens 0 := ⟨by decide +kernel, ⟨_, (by decide +kernel : decode cX11_atom4 47 = .ok (.invokevirtual 211, 3)), w_1228, w_1230, w_62⟩⟩
theorem kX11_atom4_54 : CallAt mX11_atom4 54 0 mX11_either5 0 := ⟨by decide +kernel, ⟨_, (by decide +kernel : decode cX11_atom4 54 = .ok (.invokevirtual 238, 3)), w_1286, w_1288, w_76⟩⟩
theorem kX11_atom4_61 : CallAt mX11_atom4 61 0 mX11_isSign 1 := ⟨by decide +kernel, ⟨_, (by decide +kernel : decode cX11_atom4 61 = .ok (.invokevirtual 208, 3)), w_1264, w_1266, w_71⟩⟩
theorem kX11_atom4_68 : CallAt mX11_atom4 68 0 mX11_fail 0 := ⟨by decide +kernel, ⟨_, (by decide +kernel : decode cX11_atom4 68 = .ok (.invokevirtual 180, 3)), w_1212, w_1214, w_58⟩⟩
theorem kX11_atom4_89 : CallAt mX11_atom4 89 0 mX11_nextToken 0 := ⟨by decide +kernel, ⟨_, (by decide +kernel : decode cX11_atom4 89 = .ok (.invokevirtual 183, 3)), w_1188, w_1190, w_53⟩⟩
theorem kX11_atom4_117 : CallAt mX11_atom4 117 0 mX11_nextToken 0 := ⟨by decide +kernel, ⟨_, (by decide +kernel : decode cX11_atom4 117 = .ok (.invokevirtual 183, 3)), w_1188, w_1190, w_53⟩⟩
theorem kX11_atom4_139 : CallAt mX11_atom4 139 0 mX11_name 0 := ⟨by decide +kernel, ⟨_, (by decide +kernel : decode cX11_atom4 139 = .ok (.invokevirtual 215, 3)), w_1268, w_1270, w_72⟩⟩
theorem kX11_atom4_151 : CallAt mX11_atom4 151 0 mX11_nextToken 0 := ⟨by decide +kernel, ⟨_, (by decide +kernel : decode cX11_atom4 151 = .ok (.invokevirtual 183, 3)), w_1188, w_1190, w_53⟩⟩
theorem kX11_atom4_158 : CallAt mX11_atom4 158 0 mX11_fail 0 := ⟨by decide +kernel, ⟨_, (by decide +kernel : decode cX11_atom4 158 = .ok (.invokevirtual 180, 3)), w_1212, w_1214, w_58⟩⟩

set_option maxRecDepth 20000 in
theorem GX11_term4 : Good mX11_term4 := ⟨by decide +kernel, List.mem_of_getElem? (i := 1281) (by decide +kernel), inX11, ⟨by decide +kernel, by decide +kernel⟩, by decide, show ∀ q ∈ tX11_term4, Snd mX11_term4 q.1 q.2 from
  sndC (sd_aload_n (hi := rfl) (hd := (by decide +kernel : decode cX11_term4 0 = .ok (.aload_n 0, 1)))) (
   sndC (sd_istore_n (hi := rfl) (hd := (by decide +kernel : decode cX11_term4 4 = .ok (.istore_n 1, 1)))) (
   sndC (sd_aload_n (hi := rfl) (hd := (by decide +kernel : decode cX11_term4 5 = .ok (.aload_n 0, 1)))) (
   sndC (sd_bipush (hd := (by decide +kernel : decode cX11_term4 6 = .ok (.bipush 42, 2))) (hv := by decide)) (
   sndC (sd_if_eq (ht := by decide) (hd := (by decide +kernel : decode cX11_term4 11 = .ok (.ifCond .eq 17, 3)))) (
   sndC (sd_aload_n (hi := rfl) (hd := (by decide +kernel : decode cX11_term4 14 = .ok (.aload_n 0, 1)))) (
   sndC (sd_iload_n (hi := rfl) (hd := (by decide +kernel : decode cX11_term4 18 = .ok (.iload_n 1, 1)))) (
   sndC (sd_aload_n (hi := rfl) (hd := (by decide +kernel : decode cX11_term4 19 = .ok (.aload_n 0, 1)))) (
   sndC (sd_imul (hd := (by decide +kernel : decode cX11_term4 23 = .ok (.imul, 1)))) (
   sndC (sd_istore_n (hi := rfl) (hd := (by decide +kernel : decode cX11_term4 24 = .ok (.istore_n 1, 1)))) (
   sndC (sd_goto (ht := by decide) (hd := (by decide +kernel : decode cX11_term4 25 = .ok (.goto (-20), 3)))) (
   sndC (sd_iload_n (hi := rfl) (hd := (by decide +kernel : decode cX11_term4 28 = .ok (.iload_n 1, 1)))) (
   sndN))))))))))))⟩
theorem kX11_term4_1 : CallAt mX11_term4 1 0 mX11_atom4 0 := ⟨by decide +kernel, ⟨_, (by decide +kernel : decode cX11_term4 1 = .ok (.invokevirtual 241, 3)), w_1282, w_1284, w_75⟩⟩
theorem kX11_term4_8 : CallAt mX11_term4 8 0 mX11_isSign 1 := ⟨by decide +kernel, ⟨_, (by decide +kernel : decode cX11_term4 8 = .ok (.invokevirtual 208, 3)), w_1264, w_1266, w_71⟩⟩
theorem kX11_term4_15 : CallAt mX11_term4 15 0 mX11_nextToken 0 := ⟨by decide +kernel, ⟨_, (by decide +kernel : decode cX11_term4 15 = .ok (.invokevirtual 183, 3)), w_1188, w_1190, w_53⟩⟩
theorem kX11_term4_20 : CallAt mX11_term4 20 0 mX11_atom4 0 := ⟨by decide +kernel, ⟨_, (by decide +kernel : decode cX11_term4 20 = .ok (.invokevirtual 241, 3)), w_1282, w_1284, w_75⟩⟩

set_option maxRecDepth 20000 in
theorem GX11_added4 : Good mX11_added4 := ⟨by decide +kernel, List.mem_of_getElem? (i := 1277) (by decide +kernel), inX11, ⟨by decide +kernel, by decide +kernel⟩, by decide, show ∀ q ∈ tX11_added4, Snd mX11_added4 q.1 q.2 from
  sndC (sd_aload_n (hi := rfl) (hd := (by decide +kernel : decode cX11_added4 0 = .ok (.aload_n 0, 1)))) (
   sndC (sd_istore_n (hi := rfl) (hd := (by decide +kernel : decode cX11_added4 4 = .ok (.istore_n 1, 1)))) (
   sndC (sd_aload_n (hi := rfl) (hd := (by decide +kernel : decode cX11_added4 5 = .ok (.aload_n 0, 1)))) (
   sndC (sd_bipush (hd := (by decide +kernel : decode cX11_added4 6 = .ok (.bipush 43, 2))) (hv := by decide)) (
   sndC (sd_if_ne (ht := by decide) (hd := (by decide +kernel : decode cX11_added4 11 = .ok (.ifCond .ne 12, 3)))) (
   sndC (sd_aload_n (hi := rfl) (hd := (by decide +kernel : decode cX11_added4 14 = .ok (.aload_n 0, 1)))) (
   sndC (sd_bipush (hd := (by decide +kernel : decode cX11_added4 15 = .ok (.bipush 45, 2))) (hv := by decide)) (
   sndC (sd_if_eq (ht := by decide) (hd := (by decide +kernel : decode cX11_added4 20 = .ok (.ifCond .eq 46, 3)))) (
   sndC (sd_aload_n (hi := rfl) (hd := (by decide +kernel : decode cX11_added4 23 = .ok (.aload_n 0, 1)))) (
   sndC (sd_get (C := RX11) (T := TX11) (N := 41) (hc := rfl) (hin0 := iX11) (hk := by decide) (hlink := w_1037) (hd := (by decide +kernel : decode cX11_added4 24 = .ok (.getfield 163, 3)))) (
   sndC (sd_ldc2 (hw := w_1272) (hd := (by decide +kernel : decode cX11_added4 27 = .ok (.ldc2_w 225, 3)))) (
   sndC (sd_lcmp (hd := (by decide +kernel : decode cX11_added4 30 = .ok (.lcmp, 1)))) (
   sndC (sd_if_ne (ht := by decide) (hd := (by decide +kernel : decode cX11_added4 31 = .ok (.ifCond .ne 7, 3)))) (
   sndC (sd_iconst (hd := (by decide +kernel : decode cX11_added4 34 = .ok (.iconst 1, 1))) (hv := by decide)) (
   sndC (sd_goto (ht := by decide) (hd := (by decide +kernel : decode cX11_added4 35 = .ok (.goto 4, 3)))) (
   sndC (sd_iconst (hd := (by decide +kernel : decode cX11_added4 38 = .ok (.iconst 0, 1))) (hv := by decide)) (
   sndC (sd_istore_n (hi := rfl) (hd := (by decide +kernel : decode cX11_added4 39 = .ok (.istore_n 2, 1)))) (
   sndC (sd_aload_n (hi := rfl) (hd := (by decide +kernel : decode cX11_added4 40 = .ok (.aload_n 0, 1)))) (
   sndC (sd_aload_n (hi := rfl) (hd := (by decide +kernel : decode cX11_added4 44 = .ok (.aload_n 0, 1)))) (
   sndC (sd_istore_n (hi := rfl) (hd := (by decide +kernel : decode cX11_added4 48 = .ok (.istore_n 3, 1)))) (
   sndC (sd_iload_n (hi := rfl) (hd := (by decide +kernel : decode cX11_added4 49 = .ok (.iload_n 2, 1)))) (
   sndC (sd_if_eq (ht := by decide) (hd := (by decide +kernel : decode cX11_added4 50 = .ok (.ifCond .eq 9, 3)))) (
   sndC (sd_iload_n (hi := rfl) (hd := (by decide +kernel : decode cX11_added4 53 = .ok (.iload_n 1, 1)))) (
   sndC (sd_iload_n (hi := rfl) (hd := (by decide +kernel : decode cX11_added4 54 = .ok (.iload_n 3, 1)))) (
   sndC (sd_iadd (hd := (by decide +kernel : decode cX11_added4 55 = .ok (.iadd, 1)))) (
   sndC (sd_goto (ht := by decide) (hd := (by decide +kernel : decode cX11_added4 56 = .ok (.goto 6, 3)))) (
   sndC (sd_iload_n (hi := rfl) (hd := (by decide +kernel : decode cX11_added4 59 = .ok (.iload_n 1, 1)))) (
   sndC (sd_iload_n (hi := rfl) (hd := (by decide +kernel : decode cX11_added4 60 = .ok (.iload_n 3, 1)))) (
   sndC (sd_isub (hd := (by decide +kernel : decode cX11_added4 61 = .ok (.isub, 1)))) (
   sndC (sd_istore_n (hi := rfl) (hd := (by decide +kernel : decode cX11_added4 62 = .ok (.istore_n 1, 1)))) (
   sndC (sd_goto (ht := by decide) (hd := (by decide +kernel : decode cX11_added4 63 = .ok (.goto (-58), 3)))) (
   sndC (sd_iload_n (hi := rfl) (hd := (by decide +kernel : decode cX11_added4 66 = .ok (.iload_n 1, 1)))) (
   sndN))))))))))))))))))))))))))))))))⟩
theorem kX11_added4_1 : CallAt mX11_added4 1 0 mX11_term4 0 := ⟨by decide +kernel, ⟨_, (by decide +kernel : decode cX11_added4 1 = .ok (.invokevirtual 244, 3)), w_1278, w_1280, w_74⟩⟩
theorem kX11_added4_8 : CallAt mX11_added4 8 0 mX11_isSign 1 := ⟨by decide +kernel, ⟨_, (by decide +kernel : decode cX11_added4 8 = .ok (.invokevirtual 208, 3)), w_1264, w_1266, w_71⟩⟩
theorem kX11_added4_17 : CallAt mX11_added4 17 0 mX11_isSign 1 := ⟨by decide +kernel, ⟨_, (by decide +kernel : decode cX11_added4 17 = .ok (.invokevirtual 208, 3)), w_1264, w_1266, w_71⟩⟩
theorem kX11_added4_41 : CallAt mX11_added4 41 0 mX11_nextToken 0 := ⟨by decide +kernel, ⟨_, (by decide +kernel : decode cX11_added4 41 = .ok (.invokevirtual 183, 3)), w_1188, w_1190, w_53⟩⟩
theorem kX11_added4_45 : CallAt mX11_added4 45 0 mX11_term4 0 := ⟨by decide +kernel, ⟨_, (by decide +kernel : decode cX11_added4 45 = .ok (.invokevirtual 244, 3)), w_1278, w_1280, w_74⟩⟩

set_option maxRecDepth 20000 in
theorem GX11_not4 : Good mX11_not4 := ⟨by decide +kernel, List.mem_of_getElem? (i := 1247) (by decide +kernel), inX11, ⟨by decide +kernel, by decide +kernel⟩, by decide, show ∀ q ∈ tX11_not4, Snd mX11_not4 q.1 q.2 from
  sndC (sd_aload_n (hi := rfl) (hd := (by decide +kernel : decode cX11_not4 0 = .ok (.aload_n 0, 1)))) (
   sndC (sd_bipush (hd := (by decide +kernel : decode cX11_not4 1 = .ok (.bipush 110, 2))) (hv := by decide)) (
   sndC (sd_bipush (hd := (by decide +kernel : decode cX11_not4 3 = .ok (.bipush 111, 2))) (hv := by decide)) (
   sndC (sd_bipush (hd := (by decide +kernel : decode cX11_not4 5 = .ok (.bipush 116, 2))) (hv := by decide)) (
   sndC (sd_iconst (hd := (by decide +kernel : decode cX11_not4 7 = .ok (.iconst 0, 1))) (hv := by decide)) (
   sndC (sd_iconst (hd := (by decide +kernel : decode cX11_not4 8 = .ok (.iconst 0, 1))) (hv := by decide)) (
   sndC (sd_iconst (hd := (by decide +kernel : decode cX11_not4 9 = .ok (.iconst 0, 1))) (hv := by decide)) (
   sndC (sd_iconst (hd := (by decide +kernel : decode cX11_not4 10 = .ok (.iconst 0, 1))) (hv := by decide)) (
   sndC (sd_iconst (hd := (by decide +kernel : decode cX11_not4 11 = .ok (.iconst 0, 1))) (hv := by decide)) (
   sndC (sd_if_eq (ht := by decide) (hd := (by decide +kernel : decode cX11_not4 15 = .ok (.ifCond .eq 37, 3)))) (
   sndC (sd_aload_n (hi := rfl) (hd := (by decide +kernel : decode cX11_not4 18 = .ok (.aload_n 0, 1)))) (
   sndC (sd_if_ne (ht := by decide) (hd := (by decide +kernel : decode cX11_not4 22 = .ok (.ifCond .ne 5, 3)))) (
   sndC (sd_iconst (hd := (by decide +kernel : decode cX11_not4 25 = .ok (.iconst 0, 1))) (hv := by decide)) (
   sndC (sd_aload_n (hi := rfl) (hd := (by decide +kernel : decode cX11_not4 27 = .ok (.aload_n 0, 1)))) (
   sndC (sd_istore_n (hi := rfl) (hd := (by decide +kernel : decode cX11_not4 31 = .ok (.istore_n 1, 1)))) (
   sndC (sd_aload_n (hi := rfl) (hd := (by decide +kernel : decode cX11_not4 32 = .ok (.aload_n 0, 1)))) (
   sndC (sd_dup (hd := (by decide +kernel : decode cX11_not4 33 = .ok (.dup, 1)))) (
   sndC (sd_get (C := RX11) (T := TX11) (N := 41) (hc := rfl) (hin0 := iX11) (hk := by decide) (hlink := w_1038) (hd := (by decide +kernel : decode cX11_not4 34 = .ok (.getfield 177, 3)))) (
   sndC (sd_iconst (hd := (by decide +kernel : decode cX11_not4 37 = .ok (.iconst 1, 1))) (hv := by decide)) (
   sndC (sd_isub (hd := (by decide +kernel : decode cX11_not4 38 = .ok (.isub, 1)))) (
   sndC (sd_putI (C := RX11) (T := TX11) (N := 41) (hc := rfl) (hin0 := iX11) (hk := by decide) (hlink := w_1038) (ty0 := tyX11) (hty := tyX11_ok) (hnm := nmX11) (hfin := rfl) (hi := rfl) (hd := (by decide +kernel : decode cX11_not4 39 = .ok (.putfield 177, 3)))) (
   sndC (sd_iload_n (hi := rfl) (hd := (by decide +kernel : decode cX11_not4 42 = .ok (.iload_n 1, 1)))) (
   sndC (sd_if_ne (ht := by decide) (hd := (by decide +kernel : decode cX11_not4 43 = .ok (.ifCond .ne 7, 3)))) (
   sndC (sd_iconst (hd := (by decide +kernel : decode cX11_not4 46 = .ok (.iconst 1, 1))) (hv := by decide)) (
   sndC (sd_goto (ht := by decide) (hd := (by decide +kernel : decode cX11_not4 47 = .ok (.goto 4, 3)))) (
   sndC (sd_iconst (hd := (by decide +kernel : decode cX11_not4 50 = .ok (.iconst 0, 1))) (hv := by decide)) (
   sndC (sd_aload_n (hi := rfl) (hd := (by decide +kernel : decode cX11_not4 52 = .ok (.aload_n 0, 1)))) (
   sndC (sd_istore_n (hi := rfl) (hd := (by decide +kernel : decode cX11_not4 56 = .ok (.istore_n 1, 1)))) (
   sndC (sd_aload_n (hi := rfl) (hd := (by decide +kernel : decode cX11_not4 57 = .ok (.aload_n 0, 1)))) (
   sndC (sd_bipush (hd := (by decide +kernel : decode cX11_not4 58 = .ok (.bipush 60, 2))) (hv := by decide)) (
   sndC (sd_if_ne (ht := by decide) (hd := (by decide +kernel : decode cX11_not4 63 = .ok (.ifCond .ne 14, 3)))) (
   sndC (sd_aload_n (hi := rfl) (hd := (by decide +kernel : decode cX11_not4 66 = .ok (.aload_n 0, 1)))) (
   sndC (sd_bipush (hd := (by decide +kernel : decode cX11_not4 67 = .ok (.bipush 61, 2))) (hv := by decide)) (
   sndC (sd_if_ne (ht := by decide) (hd := (by decide +kernel : decode cX11_not4 72 = .ok (.ifCond .ne 5, 3)))) (
   sndC (sd_iload_n (hi := rfl) (hd := (by decide +kernel : decode cX11_not4 75 = .ok (.iload_n 1, 1)))) (
   sndC (sd_aload_n (hi := rfl) (hd := (by decide +kernel : decode cX11_not4 77 = .ok (.aload_n 0, 1)))) (
   sndC (sd_get (C := RX11) (T := TX11) (N := 41) (hc := rfl) (hin0 := iX11) (hk := by decide) (hlink := w_1037) (hd := (by decide +kernel : decode cX11_not4 78 = .ok (.getfield 163, 3)))) (
   sndC (sd_ldc2 (hw := w_1273) (hd := (by decide +kernel : decode cX11_not4 81 = .ok (.ldc2_w 230, 3)))) (
   sndC (sd_lcmp (hd := (by decide +kernel : decode cX11_not4 84 = .ok (.lcmp, 1)))) (
   sndC (sd_if_ne (ht := by decide) (hd := (by decide +kernel : decode cX11_not4 85 = .ok (.ifCond .ne 7, 3)))) (
   sndC (sd_iconst (hd := (by decide +kernel : decode cX11_not4 88 = .ok (.iconst 1, 1))) (hv := by decide)) (
   sndC (sd_goto (ht := by decide) (hd := (by decide +kernel : decode cX11_not4 89 = .ok (.goto 4, 3)))) (
   sndC (sd_iconst (hd := (by decide +kernel : decode cX11_not4 92 = .ok (.iconst 0, 1))) (hv := by decide)) (
   sndC (sd_istore_n (hi := rfl) (hd := (by decide +kernel : decode cX11_not4 93 = .ok (.istore_n 2, 1)))) (
   sndC (sd_aload_n (hi := rfl) (hd := (by decide +kernel : decode cX11_not4 94 = .ok (.aload_n 0, 1)))) (
   sndC (sd_aload_n (hi := rfl) (hd := (by decide +kernel : decode cX11_not4 98 = .ok (.aload_n 0, 1)))) (
   sndC (sd_istore_n (hi := rfl) (hd := (by decide +kernel : decode cX11_not4 102 = .ok (.istore_n 3, 1)))) (
   sndC (sd_iload_n (hi := rfl) (hd := (by decide +kernel : decode cX11_not4 103 = .ok (.iload_n 2, 1)))) (
   sndC (sd_if_eq (ht := by decide) (hd := (by decide +kernel : decode cX11_not4 104 = .ok (.ifCond .eq 11, 3)))) (
   sndC (sd_iload_n (hi := rfl) (hd := (by decide +kernel : decode cX11_not4 107 = .ok (.iload_n 1, 1)))) (
   sndC (sd_iload_n (hi := rfl) (hd := (by decide +kernel : decode cX11_not4 108 = .ok (.iload_n 3, 1)))) (
   sndC (sd_cmp_ge (ht := by decide) (hd := (by decide +kernel : decode cX11_not4 109 = .ok (.if_icmp .ge 15, 3)))) (
   sndC (sd_goto (ht := by decide) (hd := (by decide +kernel : decode cX11_not4 112 = .ok (.goto 8, 3)))) (
   sndC (sd_iload_n (hi := rfl) (hd := (by decide +kernel : decode cX11_not4 115 = .ok (.iload_n 1, 1)))) (
   sndC (sd_iload_n (hi := rfl) (hd := (by decide +kernel : decode cX11_not4 116 = .ok (.iload_n 3, 1)))) (
   sndC (sd_cmp_ne (ht := by decide) (hd := (by decide +kernel : decode cX11_not4 117 = .ok (.if_icmp .ne 7, 3)))) (
   sndC (sd_iconst (hd := (by decide +kernel : decode cX11_not4 120 = .ok (.iconst 1, 1))) (hv := by decide)) (
   sndC (sd_goto (ht := by decide) (hd := (by decide +kernel : decode cX11_not4 121 = .ok (.goto 4, 3)))) (
   sndC (sd_iconst (hd := (by decide +kernel : decode cX11_not4 124 = .ok (.iconst 0, 1))) (hv := by decide)) (
   sndN)))))))))))))))))))))))))))))))))))))))))))))))))))))))))))⟩
theorem kX11_not4_12 : CallAt mX11_not4 12 0 mX11_isWord 8 := ⟨by decide +kernel, ⟨_, (by decide +kernel : decode cX11_not4 12 = .ok (.invokevirtual 186, 3)), w_1200, w_1202, w_55⟩⟩
theorem kX11_not4_19 : CallAt mX11_not4 19 0 mX11_opens 0 := ⟨by decide +kernel, ⟨_, (by decide +kernel : decode cX11_not4 19 = .ok (.invokevirtual 211, 3)), w_1228, w_1230, w_62⟩⟩
theorem kX11_not4_28 : CallAt mX11_not4 28 0 mX11_not5 0 := ⟨by decide +kernel, ⟨_, (by decide +kernel : decode cX11_not4 28 = .ok (.invokevirtual 232, 3)), w_1248, w_1250, w_67⟩⟩
theorem kX11_not4_53 : CallAt mX11_not4 53 0 mX11_added4 0 := ⟨by decide +kernel, ⟨_, (by decide +kernel : decode cX11_not4 53 = .ok (.invokevirtual 247, 3)), w_1274, w_1276, w_73⟩⟩
theorem kX11_not4_60 : CallAt mX11_not4 60 0 mX11_isSign 1 := ⟨by decide +kernel, ⟨_, (by decide +kernel : decode cX11_not4 60 = .ok (.invokevirtual 208, 3)), w_1264, w_1266, w_71⟩⟩
theorem kX11_not4_69 : CallAt mX11_not4 69 0 mX11_isSign 1 := ⟨by decide +kernel, ⟨_, (by decide +kernel : decode cX11_not4 69 = .ok (.invokevirtual 208, 3)), w_1264, w_1266, w_71⟩⟩
theorem kX11_not4_95 : CallAt mX11_not4 95 0 mX11_nextToken 0 := ⟨by decide +kernel, ⟨_, (by decide +kernel : decode cX11_not4 95 = .ok (.invokevirtual 183, 3)), w_1188, w_1190, w_53⟩⟩
theorem kX11_not4_99 : CallAt mX11_not4 99 0 mX11_added4 0 := ⟨by decide +kernel, ⟨_, (by decide +kernel : decode cX11_not4 99 = .ok (.invokevirtual 247, 3)), w_1274, w_1276, w_73⟩⟩

set_option maxRecDepth 20000 in
theorem GX11_both4 : Good mX11_both4 := ⟨by decide +kernel, List.mem_of_getElem? (i := 1313) (by decide +kernel), inX11, ⟨by decide +kernel, by decide +kernel⟩, by decide, show ∀ q ∈ tX11_both4, Snd mX11_both4 q.1 q.2 from
  sndC (sd_aload_n (hi := rfl) (hd := (by decide +kernel : decode cX11_both4 0 = .ok (.aload_n 0, 1)))) (
   sndC (sd_istore_n (hi := rfl) (hd := (by decide +kernel : decode cX11_both4 4 = .ok (.istore_n 1, 1)))) (
   sndC (sd_aload_n (hi := rfl) (hd := (by decide +kernel : decode cX11_both4 5 = .ok (.aload_n 0, 1)))) (
   sndC (sd_bipush (hd := (by decide +kernel : decode cX11_both4 6 = .ok (.bipush 97, 2))) (hv := by decide)) (
   sndC (sd_bipush (hd := (by decide +kernel : decode cX11_both4 8 = .ok (.bipush 110, 2))) (hv := by decide)) (
   sndC (sd_bipush (hd := (by decide +kernel : decode cX11_both4 10 = .ok (.bipush 100, 2))) (hv := by decide)) (
   sndC (sd_iconst (hd := (by decide +kernel : decode cX11_both4 12 = .ok (.iconst 0, 1))) (hv := by decide)) (
   sndC (sd_iconst (hd := (by decide +kernel : decode cX11_both4 13 = .ok (.iconst 0, 1))) (hv := by decide)) (
   sndC (sd_iconst (hd := (by decide +kernel : decode cX11_both4 14 = .ok (.iconst 0, 1))) (hv := by decide)) (
   sndC (sd_iconst (hd := (by decide +kernel : decode cX11_both4 15 = .ok (.iconst 0, 1))) (hv := by decide)) (
   sndC (sd_iconst (hd := (by decide +kernel : decode cX11_both4 16 = .ok (.iconst 0, 1))) (hv := by decide)) (
   sndC (sd_if_eq (ht := by decide) (hd := (by decide +kernel : decode cX11_both4 20 = .ok (.ifCond .eq 29, 3)))) (
   sndC (sd_aload_n (hi := rfl) (hd := (by decide +kernel : decode cX11_both4 23 = .ok (.aload_n 0, 1)))) (
   sndC (sd_aload_n (hi := rfl) (hd := (by decide +kernel : decode cX11_both4 27 = .ok (.aload_n 0, 1)))) (
   sndC (sd_istore_n (hi := rfl) (hd := (by decide +kernel : decode cX11_both4 31 = .ok (.istore_n 2, 1)))) (
   sndC (sd_iload_n (hi := rfl) (hd := (by decide +kernel : decode cX11_both4 32 = .ok (.iload_n 1, 1)))) (
   sndC (sd_if_eq (ht := by decide) (hd := (by decide +kernel : decode cX11_both4 33 = .ok (.ifCond .eq 11, 3)))) (
   sndC (sd_iload_n (hi := rfl) (hd := (by decide +kernel : decode cX11_both4 36 = .ok (.iload_n 2, 1)))) (
   sndC (sd_if_eq (ht := by decide) (hd := (by decide +kernel : decode cX11_both4 37 = .ok (.ifCond .eq 7, 3)))) (
   sndC (sd_iconst (hd := (by decide +kernel : decode cX11_both4 40 = .ok (.iconst 1, 1))) (hv := by decide)) (
   sndC (sd_goto (ht := by decide) (hd := (by decide +kernel : decode cX11_both4 41 = .ok (.goto 4, 3)))) (
   sndC (sd_iconst (hd := (by decide +kernel : decode cX11_both4 44 = .ok (.iconst 0, 1))) (hv := by decide)) (
   sndC (sd_istore_n (hi := rfl) (hd := (by decide +kernel : decode cX11_both4 45 = .ok (.istore_n 1, 1)))) (
   sndC (sd_goto (ht := by decide) (hd := (by decide +kernel : decode cX11_both4 46 = .ok (.goto (-41), 3)))) (
   sndC (sd_iload_n (hi := rfl) (hd := (by decide +kernel : decode cX11_both4 49 = .ok (.iload_n 1, 1)))) (
   sndN)))))))))))))))))))))))))⟩
theorem kX11_both4_1 : CallAt mX11_both4 1 0 mX11_not4 0 := ⟨by decide +kernel, ⟨_, (by decide +kernel : decode cX11_both4 1 = .ok (.invokevirtual 250, 3)), w_1244, w_1246, w_66⟩⟩
theorem kX11_both4_17 : CallAt mX11_both4 17 0 mX11_isWord 8 := ⟨by decide +kernel, ⟨_, (by decide +kernel : decode cX11_both4 17 = .ok (.invokevirtual 186, 3)), w_1200, w_1202, w_55⟩⟩
theorem kX11_both4_24 : CallAt mX11_both4 24 0 mX11_nextToken 0 := ⟨by decide +kernel, ⟨_, (by decide +kernel : decode cX11_both4 24 = .ok (.invokevirtual 183, 3)), w_1188, w_1190, w_53⟩⟩
theorem kX11_both4_28 : CallAt mX11_both4 28 0 mX11_not4 0 := ⟨by decide +kernel, ⟨_, (by decide +kernel : decode cX11_both4 28 = .ok (.invokevirtual 250, 3)), w_1244, w_1246, w_66⟩⟩

set_option maxRecDepth 20000 in
theorem GX11_either4 : Good mX11_either4 := ⟨by decide +kernel, List.mem_of_getElem? (i := 1309) (by decide +kernel), inX11, ⟨by decide +kernel, by decide +kernel⟩, by decide, show ∀ q ∈ tX11_either4, Snd mX11_either4 q.1 q.2 from
  sndC (sd_aload_n (hi := rfl) (hd := (by decide +kernel : decode cX11_either4 0 = .ok (.aload_n 0, 1)))) (
   sndC (sd_istore_n (hi := rfl) (hd := (by decide +kernel : decode cX11_either4 4 = .ok (.istore_n 1, 1)))) (
   sndC (sd_aload_n (hi := rfl) (hd := (by decide +kernel : decode cX11_either4 5 = .ok (.aload_n 0, 1)))) (
   sndC (sd_bipush (hd := (by decide +kernel : decode cX11_either4 6 = .ok (.bipush 111, 2))) (hv := by decide)) (
   sndC (sd_bipush (hd := (by decide +kernel : decode cX11_either4 8 = .ok (.bipush 114, 2))) (hv := by decide)) (
   sndC (sd_iconst (hd := (by decide +kernel : decode cX11_either4 10 = .ok (.iconst 0, 1))) (hv := by decide)) (
   sndC (sd_iconst (hd := (by decide +kernel : decode cX11_either4 11 = .ok (.iconst 0, 1))) (hv := by decide)) (
   sndC (sd_iconst (hd := (by decide +kernel : decode cX11_either4 12 = .ok (.iconst 0, 1))) (hv := by decide)) (
   sndC (sd_iconst (hd := (by decide +kernel : decode cX11_either4 13 = .ok (.iconst 0, 1))) (hv := by decide)) (
   sndC (sd_iconst (hd := (by decide +kernel : decode cX11_either4 14 = .ok (.iconst 0, 1))) (hv := by decide)) (
   sndC (sd_iconst (hd := (by decide +kernel : decode cX11_either4 15 = .ok (.iconst 0, 1))) (hv := by decide)) (
   sndC (sd_if_eq (ht := by decide) (hd := (by decide +kernel : decode cX11_either4 19 = .ok (.ifCond .eq 29, 3)))) (
   sndC (sd_aload_n (hi := rfl) (hd := (by decide +kernel : decode cX11_either4 22 = .ok (.aload_n 0, 1)))) (
   sndC (sd_aload_n (hi := rfl) (hd := (by decide +kernel : decode cX11_either4 26 = .ok (.aload_n 0, 1)))) (
   sndC (sd_istore_n (hi := rfl) (hd := (by decide +kernel : decode cX11_either4 30 = .ok (.istore_n 2, 1)))) (
   sndC (sd_iload_n (hi := rfl) (hd := (by decide +kernel : decode cX11_either4 31 = .ok (.iload_n 1, 1)))) (
   sndC (sd_if_ne (ht := by decide) (hd := (by decide +kernel : decode cX11_either4 32 = .ok (.ifCond .ne 7, 3)))) (
   sndC (sd_iload_n (hi := rfl) (hd := (by decide +kernel : decode cX11_either4 35 = .ok (.iload_n 2, 1)))) (
   sndC (sd_if_eq (ht := by decide) (hd := (by decide +kernel : decode cX11_either4 36 = .ok (.ifCond .eq 7, 3)))) (
   sndC (sd_iconst (hd := (by decide +kernel : decode cX11_either4 39 = .ok (.iconst 1, 1))) (hv := by decide)) (
   sndC (sd_goto (ht := by decide) (hd := (by decide +kernel : decode cX11_either4 40 = .ok (.goto 4, 3)))) (
   sndC (sd_iconst (hd := (by decide +kernel : decode cX11_either4 43 = .ok (.iconst 0, 1))) (hv := by decide)) (
   sndC (sd_istore_n (hi := rfl) (hd := (by decide +kernel : decode cX11_either4 44 = .ok (.istore_n 1, 1)))) (
   sndC (sd_goto (ht := by decide) (hd := (by decide +kernel : decode cX11_either4 45 = .ok (.goto (-40), 3)))) (
   sndC (sd_iload_n (hi := rfl) (hd := (by decide +kernel : decode cX11_either4 48 = .ok (.iload_n 1, 1)))) (
   sndN)))))))))))))))))))))))))⟩
theorem kX11_either4_1 : CallAt mX11_either4 1 0 mX11_both4 0 := ⟨by decide +kernel, ⟨_, (by decide +kernel : decode cX11_either4 1 = .ok (.invokevirtual 253, 3)), w_1310, w_1312, w_82⟩⟩
theorem kX11_either4_16 : CallAt mX11_either4 16 0 mX11_isWord 8 := ⟨by decide +kernel, ⟨_, (by decide +kernel : decode cX11_either4 16 = .ok (.invokevirtual 186, 3)), w_1200, w_1202, w_55⟩⟩
theorem kX11_either4_23 : CallAt mX11_either4 23 0 mX11_nextToken 0 := ⟨by decide +kernel, ⟨_, (by decide +kernel : decode cX11_either4 23 = .ok (.invokevirtual 183, 3)), w_1188, w_1190, w_53⟩⟩
theorem kX11_either4_27 : CallAt mX11_either4 27 0 mX11_both4 0 := ⟨by decide +kernel, ⟨_, (by decide +kernel : decode cX11_either4 27 = .ok (.invokevirtual 253, 3)), w_1310, w_1312, w_82⟩⟩

set_option maxRecDepth 20000 in
theorem GX11_atom3 : Good mX11_atom3 := ⟨by decide +kernel, List.mem_of_getElem? (i := 1305) (by decide +kernel), inX11, ⟨by decide +kernel, by decide +kernel⟩, by decide, show ∀ q ∈ tX11_atom3, Snd mX11_atom3 q.1 q.2 from
  sndC (sd_iconst (hd := (by decide +kernel : decode cX11_atom3 0 = .ok (.iconst 0, 1))) (hv := by decide)) (
   sndC (sd_istore_n (hi := rfl) (hd := (by decide +kernel : decode cX11_atom3 1 = .ok (.istore_n 1, 1)))) (
   sndC (sd_aload_n (hi := rfl) (hd := (by decide +kernel : decode cX11_atom3 2 = .ok (.aload_n 0, 1)))) (
   sndC (sd_bipush (hd := (by decide +kernel : decode cX11_atom3 3 = .ok (.bipush 45, 2))) (hv := by decide)) (
   sndC (sd_if_eq (ht := by decide) (hd := (by decide +kernel : decode cX11_atom3 8 = .ok (.ifCond .eq 29, 3)))) (
   sndC (sd_aload_n (hi := rfl) (hd := (by decide +kernel : decode cX11_atom3 11 = .ok (.aload_n 0, 1)))) (
   sndC (sd_if_eq (ht := by decide) (hd := (by decide +kernel : decode cX11_atom3 15 = .ok (.ifCond .eq 146, 3)))) (
   sndC (sd_aload_n (hi := rfl) (hd := (by decide +kernel : decode cX11_atom3 18 = .ok (.aload_n 0, 1)))) (
   sndC (sd_ineg (hd := (by decide +kernel : decode cX11_atom3 22 = .ok (.ineg, 1)))) (
   sndC (sd_istore_n (hi := rfl) (hd := (by decide +kernel : decode cX11_atom3 23 = .ok (.istore_n 1, 1)))) (
   sndC (sd_aload_n (hi := rfl) (hd := (by decide +kernel : decode cX11_atom3 24 = .ok (.aload_n 0, 1)))) (
   sndC (sd_dup (hd := (by decide +kernel : decode cX11_atom3 25 = .ok (.dup, 1)))) (
   sndC (sd_get (C := RX11) (T := TX11) (N := 41) (hc := rfl) (hin0 := iX11) (hk := by decide) (hlink := w_1038) (hd := (by decide +kernel : decode cX11_atom3 26 = .ok (.getfield 177, 3)))) (
   sndC (sd_iconst (hd := (by decide +kernel : decode cX11_atom3 29 = .ok (.iconst 1, 1))) (hv := by decide)) (
   sndC (sd_isub (hd := (by decide +kernel : decode cX11_atom3 30 = .ok (.isub, 1)))) (
   sndC (sd_putI (C := RX11) (T := TX11) (N := 41) (hc := rfl) (hin0 := iX11) (hk := by decide) (hlink := w_1038) (ty0 := tyX11) (hty := tyX11_ok) (hnm := nmX11) (hfin := rfl) (hi := rfl) (hd := (by decide +kernel : decode cX11_atom3 31 = .ok (.putfield 177, 3)))) (
   sndC (sd_goto (ht := by decide) (hd := (by decide +kernel : decode cX11_atom3 34 = .ok (.goto 127, 3)))) (
   sndC (sd_aload_n (hi := rfl) (hd := (by decide +kernel : decode cX11_atom3 37 = .ok (.aload_n 0, 1)))) (
   sndC (sd_bipush (hd := (by decide +kernel : decode cX11_atom3 38 = .ok (.bipush 40, 2))) (hv := by decide)) (
   sndC (sd_if_eq (ht := by decide) (hd := (by decide +kernel : decode cX11_atom3 43 = .ok (.ifCond .eq 52, 3)))) (
   sndC (sd_aload_n (hi := rfl) (hd := (by decide +kernel : decode cX11_atom3 46 = .ok (.aload_n 0, 1)))) (
   sndC (sd_if_eq (ht := by decide) (hd := (by decide +kernel : decode cX11_atom3 50 = .ok (.ifCond .eq 111, 3)))) (
   sndC (sd_aload_n (hi := rfl) (hd := (by decide +kernel : decode cX11_atom3 53 = .ok (.aload_n 0, 1)))) (
   sndC (sd_istore_n (hi := rfl) (hd := (by decide +kernel : decode cX11_atom3 57 = .ok (.istore_n 1, 1)))) (
   sndC (sd_aload_n (hi := rfl) (hd := (by decide +kernel : decode cX11_atom3 58 = .ok (.aload_n 0, 1)))) (
   sndC (sd_bipush (hd := (by decide +kernel : decode cX11_atom3 59 = .ok (.bipush 41, 2))) (hv := by decide)) (
   sndC (sd_if_ne (ht := by decide) (hd := (by decide +kernel : decode cX11_atom3 64 = .ok (.ifCond .ne 7, 3)))) (
   sndC (sd_aload_n (hi := rfl) (hd := (by decide +kernel : decode cX11_atom3 67 = .ok (.aload_n 0, 1)))) (
   sndC (sd_aload_n (hi := rfl) (hd := (by decide +kernel : decode cX11_atom3 71 = .ok (.aload_n 0, 1)))) (
   sndC (sd_dup (hd := (by decide +kernel : decode cX11_atom3 72 = .ok (.dup, 1)))) (
   sndC (sd_get (C := RX11) (T := TX11) (N := 41) (hc := rfl) (hin0 := iX11) (hk := by decide) (hlink := w_1038) (hd := (by decide +kernel : decode cX11_atom3 73 = .ok (.getfield 177, 3)))) (
   sndC (sd_iconst (hd := (by decide +kernel : decode cX11_atom3 76 = .ok (.iconst 1, 1))) (hv := by decide)) (
   sndC (sd_isub (hd := (by decide +kernel : decode cX11_atom3 77 = .ok (.isub, 1)))) (
   sndC (sd_putI (C := RX11) (T := TX11) (N := 41) (hc := rfl) (hin0 := iX11) (hk := by decide) (hlink := w_1038) (ty0 := tyX11) (hty := tyX11_ok) (hnm := nmX11) (hfin := rfl) (hi := rfl) (hd := (by decide +kernel : decode cX11_atom3 78 = .ok (.putfield 177, 3)))) (
   sndC (sd_aload_n (hi := rfl) (hd := (by decide +kernel : decode cX11_atom3 81 = .ok (.aload_n 0, 1)))) (
   sndC (sd_get (C := RX11) (T := TX11) (N := 41) (hc := rfl) (hin0 := iX11) (hk := by decide) (hlink := w_1039) (hd := (by decide +kernel : decode cX11_atom3 82 = .ok (.getfield 167, 3)))) (
   sndC (sd_if_ne (ht := by decide) (hd := (by decide +kernel : decode cX11_atom3 85 = .ok (.ifCond .ne 76, 3)))) (
   sndC (sd_aload_n (hi := rfl) (hd := (by decide +kernel : decode cX11_atom3 88 = .ok (.aload_n 0, 1)))) (
   sndC (sd_goto (ht := by decide) (hd := (by decide +kernel : decode cX11_atom3 92 = .ok (.goto 69, 3)))) (
   sndC (sd_aload_n (hi := rfl) (hd := (by decide +kernel : decode cX11_atom3 95 = .ok (.aload_n 0, 1)))) (
   sndC (sd_get (C := RX11) (T := TX11) (N := 41) (hc := rfl) (hin0 := iX11) (hk := by decide) (hlink := w_1039) (hd := (by decide +kernel : decode cX11_atom3 96 = .ok (.getfield 167, 3)))) (
   sndC (sd_if_ne (ht := by decide) (hd := (by decide +kernel : decode cX11_atom3 99 = .ok (.ifCond .ne 24, 3)))) (
   sndC (sd_aload_n (hi := rfl) (hd := (by decide +kernel : decode cX11_atom3 102 = .ok (.aload_n 0, 1)))) (
   sndC (sd_get (C := RX11) (T := TX11) (N := 41) (hc := rfl) (hin0 := iX11) (hk := by decide) (hlink := w_1035) (hd := (by decide +kernel : decode cX11_atom3 103 = .ok (.getfield 152, 3)))) (
   sndC (sd_iconst (hd := (by decide +kernel : decode cX11_atom3 106 = .ok (.iconst 2, 1))) (hv := by decide)) (
   sndC (sd_cmp_ne (ht := by decide) (hd := (by decide +kernel : decode cX11_atom3 107 = .ok (.if_icmp .ne 16, 3)))) (
   sndC (sd_aload_n (hi := rfl) (hd := (by decide +kernel : decode cX11_atom3 110 = .ok (.aload_n 0, 1)))) (
   sndC (sd_get (C := RX11) (T := TX11) (N := 41) (hc := rfl) (hin0 := iX11) (hk := by decide) (hlink := w_1037) (hd := (by decide +kernel : decode cX11_atom3 111 = .ok (.getfield 163, 3)))) (
   sndC (sd_l2i (hd := (by decide +kernel : decode cX11_atom3 114 = .ok (.l2i, 1)))) (
   sndC (sd_istore_n (hi := rfl) (hd := (by decide +kernel : decode cX11_atom3 115 = .ok (.istore_n 1, 1)))) (
   sndC (sd_aload_n (hi := rfl) (hd := (by decide +kernel : decode cX11_atom3 116 = .ok (.aload_n 0, 1)))) (
   sndC (sd_goto (ht := by decide) (hd := (by decide +kernel : decode cX11_atom3 120 = .ok (.goto 41, 3)))) (
   sndC (sd_aload_n (hi := rfl) (hd := (by decide +kernel : decode cX11_atom3 123 = .ok (.aload_n 0, 1)))) (
   sndC (sd_get (C := RX11) (T := TX11) (N := 41) (hc := rfl) (hin0 := iX11) (hk := by decide) (hlink := w_1039) (hd := (by decide +kernel : decode cX11_atom3 124 = .ok (.getfield 167, 3)))) (
   sndC (sd_if_ne (ht := by decide) (hd := (by decide +kernel : decode cX11_atom3 127 = .ok (.ifCond .ne 30, 3)))) (
   sndC (sd_aload_n (hi := rfl) (hd := (by decide +kernel : decode cX11_atom3 130 = .ok (.aload_n 0, 1)))) (
   sndC (sd_get (C := RX11) (T := TX11) (N := 41) (hc := rfl) (hin0 := iX11) (hk := by decide) (hlink := w_1035) (hd := (by decide +kernel : decode cX11_atom3 131 = .ok (.getfield 152, 3)))) (
   sndC (sd_iconst (hd := (by decide +kernel : decode cX11_atom3 134 = .ok (.iconst 1, 1))) (hv := by decide)) (
   sndC (sd_cmp_ne (ht := by decide) (hd := (by decide +kernel : decode cX11_atom3 135 = .ok (.if_icmp .ne 22, 3)))) (
   sndC (sd_aload_n (hi := rfl) (hd := (by decide +kernel : decode cX11_atom3 138 = .ok (.aload_n 0, 1)))) (
   sndC (sd_istore_n (hi := rfl) (hd := (by decide +kernel : decode cX11_atom3 142 = .ok (.istore_n 1, 1)))) (
   sndC (sd_aload_n (hi := rfl) (hd := (by decide +kernel : decode cX11_atom3 143 = .ok (.aload_n 0, 1)))) (
   sndC (sd_get (C := RX11) (T := TX11) (N := 41) (hc := rfl) (hin0 := iX11) (hk := by decide) (hlink := w_1039) (hd := (by decide +kernel : decode cX11_atom3 144 = .ok (.getfield 167, 3)))) (
   sndC (sd_if_ne (ht := by decide) (hd := (by decide +kernel : decode cX11_atom3 147 = .ok (.ifCond .ne 14, 3)))) (
   sndC (sd_aload_n (hi := rfl) (hd := (by decide +kernel : decode cX11_atom3 150 = .ok (.aload_n 0, 1)))) (
   sndC (sd_goto (ht := by decide) (hd := (by decide +kernel : decode cX11_atom3 154 = .ok (.goto 7, 3)))) (
   sndC (sd_aload_n (hi := rfl) (hd := (by decide +kernel : decode cX11_atom3 157 = .ok (.aload_n 0, 1)))) (
   sndC (sd_iload_n (hi := rfl) (hd := (by decide +kernel : decode cX11_atom3 161 = .ok (.iload_n 1, 1)))) (
   sndN))))))))))))))))))))))))))))))))))))))))))))))))))))))))))))))))))))⟩
theorem kX11_atom3_5 : CallAt mX11_atom3 5 0 mX11_isSign 1 := ⟨by decide +kernel, ⟨_, (by decide +kernel : decode cX11_atom3 5 = .ok (.invokevirtual 208, 3)), w_1264, w_1266, w_71⟩⟩
theorem kX11_atom3_12 : CallAt mX11_atom3 12 0 mX11_opens 0 := ⟨by decide +kernel, ⟨_, (by decide +kernel : decode cX11_atom3 12 = .ok (.invokevirtual 211, 3)), w_1228, w_1230, w_62⟩⟩
theorem kX11_atom3_19 : CallAt mX11_atom3 19 0 mX11_atom4 0 := ⟨by decide +kernel, ⟨_, (by decide +kernel : decode cX11_atom3 19 = .ok (.invokevirtual 241, 3)), w_1282, w_1284, w_75⟩⟩
theorem kX11_atom3_40 : CallAt mX11_atom3 40 0 mX11_isSign 1 := ⟨by decide +kernel, ⟨_, (by decide +kernel : decode cX11_atom3 40 = .ok (.invokevirtual 208, 3)), w_1264, w_1266, w_71⟩⟩
theorem kX11_atom3_47 : CallAt mX11_atom3 47 0 mX11_opens 0 := ⟨by decide +kernel, ⟨_, (by decide +kernel : decode cX11_atom3 47 = .ok (.invokevirtual 211, 3)), w_1228, w_1230, w_62⟩⟩
theorem kX11_atom3_54 : CallAt mX11_atom3 54 0 mX11_either4 0 := ⟨by decide +kernel, ⟨_, (by decide +kernel : decode cX11_atom3 54 = .ok (.invokevirtual 256, 3)), w_1306, w_1308, w_81⟩⟩
theorem kX11_atom3_61 : CallAt mX11_atom3 61 0 mX11_isSign 1 := ⟨by decide +kernel, ⟨_, (by decide +kernel : decode cX11_atom3 61 = .ok (.invokevirtual 208, 3)), w_1264, w_1266, w_71⟩⟩
theorem kX11_atom3_68 : CallAt mX11_atom3 68 0 mX11_fail 0 := ⟨by decide +kernel, ⟨_, (by decide +kernel : decode cX11_atom3 68 = .ok (.invokevirtual 180, 3)), w_1212, w_1214, w_58⟩⟩
theorem kX11_atom3_89 : CallAt mX11_atom3 89 0 mX11_nextToken 0 := ⟨by decide +kernel, ⟨_, (by decide +kernel : decode cX11_atom3 89 = .ok (.invokevirtual 183, 3)), w_1188, w_1190, w_53⟩⟩
theorem kX11_atom3_117 : CallAt mX11_atom3 117 0 mX11_nextToken 0 := ⟨by decide +kernel, ⟨_, (by decide +kernel : decode cX11_atom3 117 = .ok (.invokevirtual 183, 3)), w_1188, w_1190, w_53⟩⟩
theorem kX11_atom3_139 : CallAt mX11_atom3 139 0 mX11_name 0 := ⟨by decide +kernel, ⟨_, (by decide +kernel : decode cX11_atom3 139 = .ok (.invokevirtual 215, 3)), w_1268, w_1270, w_72⟩⟩
theorem kX11_atom3_151 : CallAt mX11_atom3 151 0 mX11_nextToken 0 := ⟨by decide +kernel, ⟨_, (by decide +kernel : decode cX11_atom3 151 = .ok (.invokevirtual 183, 3)), w_1188, w_1190, w_53⟩⟩
theorem kX11_atom3_158 : CallAt mX11_atom3 158 0 mX11_fail 0 := ⟨by decide +kernel, ⟨_, (by decide +kernel : decode cX11_atom3 158 = .ok (.invokevirtual 180, 3)), w_1212, w_1214, w_58⟩⟩

set_option maxRecDepth 20000 in
theorem GX11_term3 : Good mX11_term3 := ⟨by decide +kernel, List.mem_of_getElem? (i := 1301) (by decide +kernel), inX11, ⟨by decide +kernel, by decide +kernel⟩, by decide, show ∀ q ∈ tX11_term3, Snd mX11_term3 q.1 q.2 from
  sndC (sd_aload_n (hi := rfl) (hd := (by decide +kernel : decode cX11_term3 0 = .ok (.aload_n 0, 1)))) (
   sndC (sd_istore_n (hi := rfl) (hd := (by decide +kernel : decode cX11_term3 4 = .ok (.istore_n 1, 1)))) (
   sndC (sd_aload_n (hi := rfl) (hd := (by decide +kernel : decode cX11_term3 5 = .ok (.aload_n 0, 1)))) (
   sndC (sd_bipush (hd := (by decide +kernel : decode cX11_term3 6 = .ok (.bipush 42, 2))) (hv := by decide)) (
   sndC (sd_if_eq (ht := by decide) (hd := (by decide +kernel : decode cX11_term3 11 = .ok (.ifCond .eq 17, 3)))) (
   sndC (sd_aload_n (hi := rfl) (hd := (by decide +kernel : decode cX11_term3 14 = .ok (.aload_n 0, 1)))) (
   sndC (sd_iload_n (hi := rfl) (hd := (by decide +kernel : decode cX11_term3 18 = .ok (.iload_n 1, 1)))) (
   sndC (sd_aload_n (hi := rfl) (hd := (by decide +kernel : decode cX11_term3 19 = .ok (.aload_n 0, 1)))) (
   sndC (sd_imul (hd := (by decide +kernel : decode cX11_term3 23 = .ok (.imul, 1)))) (
   sndC (sd_istore_n (hi := rfl) (hd := (by decide +kernel : decode cX11_term3 24 = .ok (.istore_n 1, 1)))) (
   sndC (sd_goto (ht := by decide) (hd := (by decide +kernel : decode cX11_term3 25 = .ok (.goto (-20), 3)))) (
   sndC (sd_iload_n (hi := rfl) (hd := (by decide +kernel : decode cX11_term3 28 = .ok (.iload_n 1, 1)))) (
   sndN))))))))))))⟩
theorem kX11_term3_1 : CallAt mX11_term3 1 0 mX11_atom3 0 := ⟨by decide +kernel, ⟨_, (by decide +kernel : decode cX11_term3 1 = .ok (.invokevirtual 259, 3)), w_1302, w_1304, w_80⟩⟩
theorem kX11_term3_8 : CallAt mX11_term3 8 0 mX11_isSign 1 := ⟨by decide +kernel, ⟨_, (by decide +kernel : decode cX11_term3 8 = .ok (.invokevirtual 208, 3)), w_1264, w_1266, w_71⟩⟩
theorem kX11_term3_15 : CallAt mX11_term3 15 0 mX11_nextToken 0 := ⟨by decide +kernel, ⟨_, (by decide +kernel : decode cX11_term3 15 = .ok (.invokevirtual 183, 3)), w_1188, w_1190, w_53⟩⟩
theorem kX11_term3_20 : CallAt mX11_term3 20 0 mX11_atom3 0 := ⟨by decide +kernel, ⟨_, (by decide +kernel : decode cX11_term3 20 = .ok (.invokevirtual 259, 3)), w_1302, w_1304, w_80⟩⟩

set_option maxRecDepth 20000 in
theorem GX11_added3 : Good mX11_added3 := ⟨by decide +kernel, List.mem_of_getElem? (i := 1297) (by decide +kernel), inX11, ⟨by decide +kernel, by decide +kernel⟩, by decide, show ∀ q ∈ tX11_added3, Snd mX11_added3 q.1 q.2 from
  sndC (sd_aload_n (hi := rfl) (hd := (by decide +kernel : decode cX11_added3 0 = .ok (.aload_n 0, 1)))) (
   sndC (sd_istore_n (hi := rfl) (hd := (by decide +kernel : decode cX11_added3 4 = .ok (.istore_n 1, 1)))) (
   sndC (sd_aload_n (hi := rfl) (hd := (by decide +kernel : decode cX11_added3 5 = .ok (.aload_n 0, 1)))) (
   sndC (sd_bipush (hd := (by decide +kernel : decode cX11_added3 6 = .ok (.bipush 43, 2))) (hv := by decide)) (
   sndC (sd_if_ne (ht := by decide) (hd := (by decide +kernel : decode cX11_added3 11 = .ok (.ifCond .ne 12, 3)))) (
   sndC (sd_aload_n (hi := rfl) (hd := (by decide +kernel : decode cX11_added3 14 = .ok (.aload_n 0, 1)))) (
   sndC (sd_bipush (hd := (by decide +kernel : decode cX11_added3 15 = .ok (.bipush 45, 2))) (hv := by decide)) (
   sndC (sd_if_eq (ht := by decide) (hd := (by decide +kernel : decode cX11_added3 20 = .ok (.ifCond .eq 46, 3)))) (
   sndC (sd_aload_n (hi := rfl) (hd := (by decide +kernel : decode cX11_added3 23 = .ok (.aload_n 0, 1)))) (
   sndC (sd_get (C := RX11) (T := TX11) (N := 41) (hc := rfl) (hin0 := iX11) (hk := by decide) (hlink := w_1037) (hd := (by decide +kernel : decode cX11_added3 24 = .ok (.getfield 163, 3)))) (
   sndC (sd_ldc2 (hw := w_1272) (hd := (by decide +kernel : decode cX11_added3 27 = .ok (.ldc2_w 225, 3)))) (
   sndC (sd_lcmp (hd := (by decide +kernel : decode cX11_added3 30 = .ok (.lcmp, 1)))) (
   sndC (sd_if_ne (ht := by decide) (hd := (by decide +kernel : decode cX11_added3 31 = .ok (.ifCond .ne 7, 3)))) (
   sndC (sd_iconst (hd := (by decide +kernel : decode cX11_added3 34 = .ok (.iconst 1, 1))) (hv := by decide)) (
   sndC (sd_goto (ht := by decide) (hd := (by decide +kernel : decode cX11_added3 35 = .ok (.goto 4, 3)))) (
   sndC (sd_iconst (hd := (by decide +kernel : decode cX11_added3 38 = .ok (.iconst 0, 1))) (hv := by decide)) (
   sndC (sd_istore_n (hi := rfl) (hd := (by decide +kernel : decode cX11_added3 39 = .ok (.istore_n 2, 1)))) (
   sndC (sd_aload_n (hi := rfl) (hd := (by decide +kernel : decode cX11_added3 40 = .ok (.aload_n 0, 1)))) (
   sndC (sd_aload_n (hi := rfl) (hd := (by decide +kernel : decode cX11_added3 44 = .ok (.aload_n 0, 1)))) (
   sndC (sd_istore_n (hi := rfl) (hd := (by decide +kernel : decode cX11_added3 48 = .ok (.istore_n 3, 1)))) (
   sndC (sd_iload_n (hi := rfl) (hd := (by decide +kernel : decode cX11_added3 49 = .ok (.iload_n 2, 1)))) (
   sndC (sd_if_eq (ht := by decide) (hd := (by decide +kernel : decode cX11_added3 50 = .ok (.ifCond .eq 9, 3)))) (
   sndC (sd_iload_n (hi := rfl) (hd := (by decide +kernel : decode cX11_added3 53 = .ok (.iload_n 1, 1)))) (
   sndC (sd_iload_n (hi := rfl) (hd := (by decide +kernel : decode cX11_added3 54 = .ok (.iload_n 3, 1)))) (
   sndC (sd_iadd (hd := (by decide +kernel : decode cX11_added3 55 = .ok (.iadd, 1)))) (
   sndC (sd_goto (ht := by decide) (hd := (by decide +kernel : decode cX11_added3 56 = .ok (.goto 6, 3)))) (
   sndC (sd_iload_n (hi := rfl) (hd := (by decide +kernel : decode cX11_added3 59 = .ok (.iload_n 1, 1)))) (
   sndC (sd_iload_n (hi := rfl) (hd := (by decide +kernel : decode cX11_added3 60 = .ok (.iload_n 3, 1)))) (
   sndC (sd_isub (hd := (by decide +kernel : decode cX11_added3 61 = .ok (.isub, 1)))) (
   sndC (sd_istore_n (hi := rfl) (hd := (by decide +kernel : decode cX11_added3 62 = .ok (.istore_n 1, 1)))) (
   sndC (sd_goto (ht := by decide) (hd := (by decide +kernel : decode cX11_added3 63 = .ok (.goto (-58), 3)))) (
   sndC (sd_iload_n (hi := rfl) (hd := (by decide +kernel : decode cX11_added3 66 = .ok (.iload_n 1, 1)))) (
   sndN))))))))))))))))))))))))))))))))⟩
theorem kX11_added3_1 : CallAt mX11_added3 1 0 mX11_term3 0 := ⟨by decide +kernel, ⟨_, (by decide +kernel : decode cX11_added3 1 = .ok (.invokevirtual 262, 3)), w_1298, w_1300, w_79⟩⟩
theorem kX11_added3_8 : CallAt mX11_added3 8 0 mX11_isSign 1 := ⟨by decide +kernel, ⟨_, (by decide +kernel : decode cX11_added3 8 = .ok (.invokevirtual 208, 3)), w_1264, w_1266, w_71⟩⟩
theorem kX11_added3_17 : CallAt mX11_added3 17 0 mX11_isSign 1 := ⟨by decide +kernel, ⟨_, (by decide +kernel : decode cX11_added3 17 = .ok (.invokevirtual 208, 3)), w_1264, w_1266, w_71⟩⟩
theorem kX11_added3_41 : CallAt mX11_added3 41 0 mX11_nextToken 0 := ⟨by decide +kernel, ⟨_, (by decide +kernel : decode cX11_added3 41 = .ok (.invokevirtual 183, 3)), w_1188, w_1190, w_53⟩⟩
theorem kX11_added3_45 : CallAt mX11_added3 45 0 mX11_term3 0 := ⟨by decide +kernel, ⟨_, (by decide +kernel : decode cX11_added3 45 = .ok (.invokevirtual 262, 3)), w_1298, w_1300, w_79⟩⟩

set_option maxRecDepth 20000 in
theorem GX11_not3 : Good mX11_not3 := ⟨by decide +kernel, List.mem_of_getElem? (i := 1243) (by decide +kernel), inX11, ⟨by decide +kernel, by decide +kernel⟩, by decide, show ∀ q ∈ tX11_not3, Snd mX11_not3 q.1 q.2 from
  sndC (sd_aload_n (hi := rfl) (hd := (by decide +kernel : decode cX11_not3 0 = .ok (.aload_n 0, 1)))) (
   sndC (sd_bipush (hd := (by decide +kernel : decode cX11_not3 1 = .ok (.bipush 110, 2))) (hv := by decide)) (
   sndC (sd_bipush (hd := (by decide +kernel : decode cX11_not3 3 = .ok (.bipush 111, 2))) (hv := by decide)) (
   sndC (sd_bipush (hd := (by decide +kernel : decode cX11_not3 5 = .ok (.bipush 116, 2))) (hv := by decide)) (
   sndC (sd_iconst (hd := (by decide +kernel : decode cX11_not3 7 = .ok (.iconst 0, 1))) (hv := by decide)) (
   sndC (sd_iconst (hd := (by decide +kernel : decode cX11_not3 8 = .ok (.iconst 0, 1))) (hv := by decide)) (
   sndC (sd_iconst (hd := (by decide +kernel : decode cX11_not3 9 = .ok (.iconst 0, 1))) (hv := by decide)) (
   sndC (sd_iconst (hd := (by decide +kernel : decode cX11_not3 10 = .ok (.iconst 0, 1))) (hv := by decide)) (
   sndC (sd_iconst (hd := (by decide +kernel : decode cX11_not3 11 = .ok (.iconst 0, 1))) (hv := by decide)) (
   sndC (sd_if_eq (ht := by decide) (hd := (by decide +kernel : decode cX11_not3 15 = .ok (.ifCond .eq 37, 3)))) (
   sndC (sd_aload_n (hi := rfl) (hd := (by decide +kernel : decode cX11_not3 18 = .ok (.aload_n 0, 1)))) (
   sndC (sd_if_ne (ht := by decide) (hd := (by decide +kernel : decode cX11_not3 22 = .ok (.ifCond .ne 5, 3)))) (
   sndC (sd_iconst (hd := (by decide +kernel : decode cX11_not3 25 = .ok (.iconst 0, 1))) (hv := by decide)) (
   sndC (sd_aload_n (hi := rfl) (hd := (by decide +kernel : decode cX11_not3 27 = .ok (.aload_n 0, 1)))) (
   sndC (sd_istore_n (hi := rfl) (hd := (by decide +kernel : decode cX11_not3 31 = .ok (.istore_n 1, 1)))) (
   sndC (sd_aload_n (hi := rfl) (hd := (by decide +kernel : decode cX11_not3 32 = .ok (.aload_n 0, 1)))) (
   sndC (sd_dup (hd := (by decide +kernel : decode cX11_not3 33 = .ok (.dup, 1)))) (
   sndC (sd_get (C := RX11) (T := TX11) (N := 41) (hc := rfl) (hin0 := iX11) (hk := by decide) (hlink := w_1038) (hd := (by decide +kernel : decode cX11_not3 34 = .ok (.getfield 177, 3)))) (
   sndC (sd_iconst (hd := (by decide +kernel : decode cX11_not3 37 = .ok (.iconst 1, 1))) (hv := by decide)) (
   sndC (sd_isub (hd := (by decide +kernel : decode cX11_not3 38 = .ok (.isub, 1)))) (
   sndC (sd_putI (C := RX11) (T := TX11) (N := 41) (hc := rfl) (hin0 := iX11) (hk := by decide) (hlink := w_1038) (ty0 := tyX11) (hty := tyX11_ok) (hnm := nmX11) (hfin := rfl) (hi := rfl) (hd := (by decide +kernel : decode cX11_not3 39 = .ok (.putfield 177, 3)))) (
   sndC (sd_iload_n (hi := rfl) (hd := (by decide +kernel : decode cX11_not3 42 = .ok (.iload_n 1, 1)))) (
   sndC (sd_if_ne (ht := by decide) (hd := (by decide +kernel : decode cX11_not3 43 = .ok (.ifCond .ne 7, 3)))) (
   sndC (sd_iconst (hd := (by decide +kernel : decode cX11_not3 46 = .ok (.iconst 1, 1))) (hv := by decide)) (
   sndC (sd_goto (ht := by decide) (hd := (by decide +kernel : decode cX11_not3 47 = .ok (.goto 4, 3)))) (
   sndC (sd_iconst (hd := (by decide +kernel : decode cX11_not3 50 = .ok (.iconst 0, 1))) (hv := by decide)) (
   sndC (sd_aload_n (hi := rfl) (hd := (by decide +kernel : decode cX11_not3 52 = .ok (.aload_n 0, 1)))) (
   sndC (sd_istore_n (hi := rfl) (hd := (by decide +kernel : decode cX11_not3 56 = .ok (.istore_n 1, 1)))) (
   sndC (sd_aload_n (hi := rfl) (hd := (by decide +kernel : decode cX11_not3 57 = .ok (.aload_n 0, 1)))) (
   sndC (sd_bipush (hd := (by decide +kernel : decode cX11_not3 58 = .ok (.bipush 60, 2))) (hv := by decide)) (
   sndC (sd_if_ne (ht := by decide) (hd := (by decide +kernel : decode cX11_not3 63 = .ok (.ifCond .ne 14, 3)))) (
   sndC (sd_aload_n (hi := rfl) (hd := (by decide +kernel : decode cX11_not3 66 = .ok (.aload_n 0, 1)))) (
   sndC (sd_bipush (hd := (by decide +kernel : decode cX11_not3 67 = .ok (.bipush 61, 2))) (hv := by decide)) (
   sndC (sd_if_ne (ht := by decide) (hd := (by decide +kernel : decode cX11_not3 72 = .ok (.ifCond .ne 5, 3)))) (
   sndC (sd_iload_n (hi := rfl) (hd := (by decide +kernel : decode cX11_not3 75 = .ok (.iload_n 1, 1)))) (
   sndC (sd_aload_n (hi := rfl) (hd := (by decide +kernel : decode cX11_not3 77 = .ok (.aload_n 0, 1)))) (
   sndC (sd_get (C := RX11) (T := TX11) (N := 41) (hc := rfl) (hin0 := iX11) (hk := by decide) (hlink := w_1037) (hd := (by decide +kernel : decode cX11_not3 78 = .ok (.getfield 163, 3)))) (
   sndC (sd_ldc2 (hw := w_1273) (hd := (by decide +kernel : decode cX11_not3 81 = .ok (.ldc2_w 230, 3)))) (
   sndC (sd_lcmp (hd := (by decide +kernel : decode cX11_not3 84 = .ok (.lcmp, 1)))) (
   sndC (sd_if_ne (ht := by decide) (hd := (by decide +kernel : decode cX11_not3 85 = .ok (.ifCond .ne 7, 3)))) (
   sndC (sd_iconst (hd := (by decide +kernel : decode cX11_not3 88 = .ok (.iconst 1, 1))) (hv := by decide)) (
   sndC (sd_goto (ht := by decide) (hd := (by decide +kernel : decode cX11_not3 89 = .ok (.goto 4, 3)))) (
   sndC (sd_iconst (hd := (by decide +kernel : decode cX11_not3 92 = .ok (.iconst 0, 1))) (hv := by decide)) (
   sndC (sd_istore_n (hi := rfl) (hd := (by decide +kernel : decode cX11_not3 93 = .ok (.istore_n 2, 1)))) (
   sndC (sd_aload_n (hi := rfl) (hd := (by decide +kernel : decode cX11_not3 94 = .ok (.aload_n 0, 1)))) (
   sndC (sd_aload_n (hi := rfl) (hd := (by decide +kernel : decode cX11_not3 98 = .ok (.aload_n 0, 1)))) (
   sndC (sd_istore_n (hi := rfl) (hd := (by decide +kernel : decode cX11_not3 102 = .ok (.istore_n 3, 1)))) (
   sndC (sd_iload_n (hi := rfl) (hd := (by decide +kernel : decode cX11_not3 103 = .ok (.iload_n 2, 1)))) (
   sndC (sd_if_eq (ht := by decide) (hd := (by decide +kernel : decode cX11_not3 104 = .ok (.ifCond .eq 11, 3)))) (
   sndC (sd_iload_n (hi := rfl) (hd := (by decide +kernel : decode cX11_not3 107 = .ok (.iload_n 1, 1)))) (
   sndC (sd_iload_n (hi := rfl) (hd := (by decide +kernel : decode cX11_not3 108 = .ok (.iload_n 3, 1)))) (
   sndC (sd_cmp_ge (ht := by decide) (hd := (by decide +kernel : decode cX11_not3 109 = .ok (.if_icmp .ge 15, 3)))) (
   sndC (sd_goto (ht := by decide) (hd := (by decide +kernel : decode cX11_not3 112 = .ok (.goto 8, 3)))) (
   sndC (sd_iload_n (hi := rfl) (hd := (by decide +kernel : decode cX11_not3 115 = .ok (.iload_n 1, 1)))) (
   sndC (sd_iload_n (hi := rfl) (hd := (by decide +kernel : decode cX11_not3 116 = .ok (.iload_n 3, 1)))) (
   sndC (sd_cmp_ne (ht := by decide) (hd := (by decide +kernel : decode cX11_not3 117 = .ok (.if_icmp .ne 7, 3)))) (
   sndC (sd_iconst (hd := (by decide +kernel : decode cX11_not3 120 = .ok (.iconst 1, 1))) (hv := by decide)) (
   sndC (sd_goto (ht := by decide) (hd := (by decide +kernel : decode cX11_not3 121 = .ok (.goto 4, 3)))) (
   sndC (sd_iconst (hd := (by decide +kernel : decode cX11_not3 124 = .ok (.iconst 0, 1))) (hv := by decide)) (
   sndN)))))))))))))))))))))))))))))))))))))))))))))))))))))))))))⟩
theorem kX11_not3_12 : CallAt mX11_not3 12 0 mX11_isWord 8 := ⟨by decide +kernel, ⟨_, (by decide +kernel : decode cX11_not3 12 = .ok (.invokevirtual 186, 3)), w_1200, w_1202, w_55⟩⟩
theorem kX11_not3_19 : CallAt mX11_not3 19 0 mX11_opens 0 := ⟨by decide +kernel, ⟨_, (by decide +kernel : decode cX11_not3 19 = .ok (.invokevirtual 211, 3)), w_1228, w_1230, w_62⟩⟩
theorem kX11_not3_28 : CallAt mX11_not3 28 0 mX11_not4 0 := ⟨by decide +kernel, ⟨_, (by decide +kernel : decode cX11_not3 28 = .ok (.invokevirtual 250, 3)), w_1244, w_1246, w_66⟩⟩
theorem kX11_not3_53 : CallAt mX11_not3 53 0 mX11_added3 0 := ⟨by decide +kernel, ⟨_, (by decide +kernel : decode cX11_not3 53 = .ok (.invokevirtual 265, 3)), w_1294, w_1296, w_78⟩⟩
theorem kX11_not3_60 : CallAt mX11_not3 60 0 mX11_isSign 1 := ⟨by decide +kernel, ⟨_, (by decide +kernel : decode cX11_not3 60 = .ok (.invokevirtual 208, 3)), w_1264, w_1266, w_71⟩⟩
theorem kX11_not3_69 : CallAt mX11_not3 69 0 mX11_isSign 1 := ⟨by decide +kernel, ⟨_, (by decide +kernel : decode cX11_not3 69 = .ok (.invokevirtual 208, 3)), w_1264, w_1266, w_71⟩⟩
theorem kX11_not3_95 : CallAt mX11_not3 95 0 mX11_nextToken 0 := ⟨by decide +kernel, ⟨_, (by decide +kernel : decode cX11_not3 95 = .ok (.invokevirtual 183, 3)), w_1188, w_1190, w_53⟩⟩
theorem kX11_not3_99 : CallAt mX11_not3 99 0 mX11_added3 0 := ⟨by decide +kernel, ⟨_, (by decide +kernel : decode cX11_not3 99 = .ok (.invokevirtual 265, 3)), w_1294, w_1296, w_78⟩⟩

set_option maxRecDepth 20000 in
theorem GX11_both3 : Good mX11_both3 := ⟨by decide +kernel, List.mem_of_getElem? (i := 1333) (by decide +kernel), inX11, ⟨by decide +kernel, by decide +kernel⟩, by decide, show ∀ q ∈ tX11_both3, Snd mX11_both3 q.1 q.2 from
  sndC (sd_aload_n (hi := rfl) (hd := (by decide +kernel : decode cX11_both3 0 = .ok (.aload_n 0, 1)))) (
   sndC (sd_istore_n (hi := rfl) (hd := (by decide +kernel : decode cX11_both3 4 = .ok (.istore_n 1, 1)))) (
   sndC (sd_aload_n (hi := rfl) (hd := (by decide +kernel : decode cX11_both3 5 = .ok (.aload_n 0, 1)))) (
   sndC (sd_bipush (hd := (by decide +kernel : decode cX11_both3 6 = .ok (.bipush 97, 2))) (hv := by decide)) (
   sndC (sd_bipush (hd := (by decide +kernel : decode cX11_both3 8 = .ok (.bipush 110, 2))) (hv := by decide)) (
   sndC (sd_bipush (hd := (by decide +kernel : decode cX11_both3 10 = .ok (.bipush 100, 2))) (hv := by decide)) (
   sndC (sd_iconst (hd := (by decide +kernel : decode cX11_both3 12 = .ok (.iconst 0, 1))) (hv := by decide)) (
   sndC (sd_iconst (hd := (by decide +kernel : decode cX11_both3 13 = .ok (.iconst 0, 1))) (hv := by decide)) (
   sndC (sd_iconst (hd := (by decide +kernel : decode cX11_both3 14 = .ok (.iconst 0, 1))) (hv := by decide)) (
   sndC (sd_iconst (hd := (by decide +kernel : decode cX11_both3 15 = .ok (.iconst 0, 1))) (hv := by decide)) (
   sndC (sd_iconst (hd := (by decide +kernel : decode cX11_both3 16 = .ok (.iconst 0, 1))) (hv := by decide)) (
   sndC (sd_if_eq (ht := by decide) (hd := (by decide +kernel : decode cX11_both3 20 = .ok (.ifCond .eq 29, 3)))) (
   sndC (sd_aload_n (hi := rfl) (hd := (by decide +kernel : decode cX11_both3 23 = .ok (.aload_n 0, 1)))) (
   sndC (sd_aload_n (hi := rfl) (hd := (by decide +kernel : decode cX11_both3 27 = .ok (.aload_n 0, 1)))) (
   sndC (sd_istore_n (hi := rfl) (hd := (by decide +kernel : decode cX11_both3 31 = .ok (.istore_n 2, 1)))) (
   sndC (sd_iload_n (hi := rfl) (hd := (by decide +kernel : decode cX11_both3 32 = .ok (.iload_n 1, 1)))) (
   sndC (sd_if_eq (ht := by decide) (hd := (by decide +kernel : decode cX11_both3 33 = .ok (.ifCond .eq 11, 3)))) (
   sndC (sd_iload_n (hi := rfl) (hd := (by decide +kernel : decode cX11_both3 36 = .ok (.iload_n 2, 1)))) (
   sndC (sd_if_eq (ht := by decide) (hd := (by decide +kernel : decode cX11_both3 37 = .ok (.ifCond .eq 7, 3)))) (
   sndC (sd_iconst (hd := (by decide +kernel : decode cX11_both3 40 = .ok (.iconst 1, 1))) (hv := by decide)) (
   sndC (sd_goto (ht := by decide) (hd := (by decide +kernel : decode cX11_both3 41 = .ok (.goto 4, 3)))) (
   sndC (sd_iconst (hd := (by decide +kernel : decode cX11_both3 44 = .ok (.iconst 0, 1))) (hv := by decide)) (
   sndC (sd_istore_n (hi := rfl) (hd := (by decide +kernel : decode cX11_both3 45 = .ok (.istore_n 1, 1)))) (
   sndC (sd_goto (ht := by decide) (hd := (by decide +kernel : decode cX11_both3 46 = .ok (.goto (-41), 3)))) (
   sndC (sd_iload_n (hi := rfl) (hd := (by decide +kernel : decode cX11_both3 49 = .ok (.iload_n 1, 1)))) (
   sndN)))))))))))))))))))))))))⟩
theorem kX11_both3_1 : CallAt mX11_both3 1 0 mX11_not3 0 := ⟨by decide +kernel, ⟨_, (by decide +kernel : decode cX11_both3 1 = .ok (.invokevirtual 268, 3)), w_1240, w_1242, w_65⟩⟩
theorem kX11_both3_17 : CallAt mX11_both3 17 0 mX11_isWord 8 := ⟨by decide +kernel, ⟨_, (by decide +kernel : decode cX11_both3 17 = .ok (.invokevirtual 186, 3)), w_1200, w_1202, w_55⟩⟩
theorem kX11_both3_24 : CallAt mX11_both3 24 0 mX11_nextToken 0 := ⟨by decide +kernel, ⟨_, (by decide +kernel : decode cX11_both3 24 = .ok (.invokevirtual 183, 3)), w_1188, w_1190, w_53⟩⟩
theorem kX11_both3_28 : CallAt mX11_both3 28 0 mX11_not3 0 := ⟨by decide +kernel, ⟨_, (by decide +kernel : decode cX11_both3 28 = .ok (.invokevirtual 268, 3)), w_1240, w_1242, w_65⟩⟩

set_option maxRecDepth 20000 in
theorem GX11_either3 : Good mX11_either3 := ⟨by decide +kernel, List.mem_of_getElem? (i := 1329) (by decide +kernel), inX11, ⟨by decide +kernel, by decide +kernel⟩, by decide, show ∀ q ∈ tX11_either3, Snd mX11_either3 q.1 q.2 from
  sndC (sd_aload_n (hi := rfl) (hd := (by decide +kernel : decode cX11_either3 0 = .ok (.aload_n 0, 1)))) (
   sndC (sd_istore_n (hi := rfl) (hd := (by decide +kernel : decode cX11_either3 4 = .ok (.istore_n 1, 1)))) (
   sndC (sd_aload_n (hi := rfl) (hd := (by decide +kernel : decode cX11_either3 5 = .ok (.aload_n 0, 1)))) (
   sndC (sd_bipush (hd := (by decide +kernel : decode cX11_either3 6 = .ok (.bipush 111, 2))) (hv := by decide)) (
   sndC (sd_bipush (hd := (by decide +kernel : decode cX11_either3 8 = .ok (.bipush 114, 2))) (hv := by decide)) (
   sndC (sd_iconst (hd := (by decide +kernel : decode cX11_either3 10 = .ok (.iconst 0, 1))) (hv := by decide)) (
   sndC (sd_iconst (hd := (by decide +kernel : decode cX11_either3 11 = .ok (.iconst 0, 1))) (hv := by decide)) (
   sndC (sd_iconst (hd := (by decide +kernel : decode cX11_either3 12 = .ok (.iconst 0, 1))) (hv := by decide)) (
   sndC (sd_iconst (hd := (by decide +kernel : decode cX11_either3 13 = .ok (.iconst 0, 1))) (hv := by decide)) (
   sndC (sd_iconst (hd := (by decide +kernel : decode cX11_either3 14 = .ok (.iconst 0, 1))) (hv := by decide)) (
   sndC (sd_iconst (hd := (by decide +kernel : decode cX11_either3 15 = .ok (.iconst 0, 1))) (hv := by decide)) (
   sndC (sd_if_eq (ht := by decide) (hd := (by decide +kernel : decode cX11_either3 19 = .ok (.ifCond .eq 29, 3)))) (
   sndC (sd_aload_n (hi := rfl) (hd := (by decide +kernel : decode cX11_either3 22 = .ok (.aload_n 0, 1)))) (
   sndC (sd_aload_n (hi := rfl) (hd := (by decide +kernel : decode cX11_either3 26 = .ok (.aload_n 0, 1)))) (
   sndC (sd_istore_n (hi := rfl) (hd := (by decide +kernel : decode cX11_either3 30 = .ok (.istore_n 2, 1)))) (
   sndC (sd_iload_n (hi := rfl) (hd := (by decide +kernel : decode cX11_either3 31 = .ok (.iload_n 1, 1)))) (
   sndC (sd_if_ne (ht := by decide) (hd := (by decide +kernel : decode cX11_either3 32 = .ok (.ifCond .ne 7, 3)))) (
   sndC (sd_iload_n (hi := rfl) (hd := (by decide +kernel : decode cX11_either3 35 = .ok (.iload_n 2, 1)))) (
   sndC (sd_if_eq (ht := by decide) (hd := (by decide +kernel : decode cX11_either3 36 = .ok (.ifCond .eq 7, 3)))) (
   sndC (sd_iconst (hd := (by decide +kernel : decode cX11_either3 39 = .ok (.iconst 1, 1))) (hv := by decide)) (
   sndC (sd_goto (ht := by decide) (hd := (by decide +kernel : decode cX11_either3 40 = .ok (.goto 4, 3)))) (
   sndC (sd_iconst (hd := (by decide +kernel : decode cX11_either3 43 = .ok (.iconst 0, 1))) (hv := by decide)) (
   sndC (sd_istore_n (hi := rfl) (hd := (by decide +kernel : decode cX11_either3 44 = .ok (.istore_n 1, 1)))) (
   sndC (sd_goto (ht := by decide) (hd := (by decide +kernel : decode cX11_either3 45 = .ok (.goto (-40), 3)))) (
   sndC (sd_iload_n (hi := rfl) (hd := (by decide +kernel : decode cX11_either3 48 = .ok (.iload_n 1, 1)))) (
   sndN)))))))))))))))))))))))))⟩
theorem kX11_either3_1 : CallAt mX11_either3 1 0 mX11_both3 0 := ⟨by decide +kernel, ⟨_, (by decide +kernel : decode cX11_either3 1 = .ok (.invokevirtual 271, 3)), w_1330, w_1332, w_87⟩⟩
theorem kX11_either3_16 : CallAt mX11_either3 16 0 mX11_isWord 8 := ⟨by decide +kernel, ⟨_, (by decide +kernel : decode cX11_either3 16 = .ok (.invokevirtual 186, 3)), w_1200, w_1202, w_55⟩⟩
theorem kX11_either3_23 : CallAt mX11_either3 23 0 mX11_nextToken 0 := ⟨by decide +kernel, ⟨_, (by decide +kernel : decode cX11_either3 23 = .ok (.invokevirtual 183, 3)), w_1188, w_1190, w_53⟩⟩
theorem kX11_either3_27 : CallAt mX11_either3 27 0 mX11_both3 0 := ⟨by decide +kernel, ⟨_, (by decide +kernel : decode cX11_either3 27 = .ok (.invokevirtual 271, 3)), w_1330, w_1332, w_87⟩⟩

set_option maxRecDepth 20000 in
theorem GX11_atom2 : Good mX11_atom2 := ⟨by decide +kernel, List.mem_of_getElem? (i := 1325) (by decide +kernel), inX11, ⟨by decide +kernel, by decide +kernel⟩, by decide, show ∀ q ∈ tX11_atom2, Snd mX11_atom2 q.1 q.2 from
  sndC (sd_iconst (hd := (by decide +kernel : decode cX11_atom2 0 = .ok (.iconst 0, 1))) (hv := by decide)) (
   sndC (sd_istore_n (hi := rfl) (hd := (by decide +kernel : decode cX11_atom2 1 = .ok (.istore_n 1, 1)))) (
   sndC (sd_aload_n (hi := rfl) (hd := (by decide +kernel : decode cX11_atom2 2 = .ok (.aload_n 0, 1)))) (
   sndC (sd_bipush (hd := (by decide +kernel : decode cX11_atom2 3 = .ok (.bipush 45, 2))) (hv := by decide)) (
   sndC (sd_if_eq (ht := by decide) (hd := (by decide +kernel : decode cX11_atom2 8 = .ok (.ifCond .eq 29, 3)))) (
   sndC (sd_aload_n (hi := rfl) (hd := (by decide +kernel : decode cX11_atom2 11 = .ok (.aload_n 0, 1)))) (
   sndC (sd_if_eq (ht := by decide) (hd := (by decide +kernel : decode cX11_atom2 15 = .ok (.ifCond .eq 146, 3)))) (
   sndC (sd_aload_n (hi := rfl) (hd := (by decide +kernel : decode cX11_atom2 18 = .ok (.aload_n 0, 1)))) (
   sndC (sd_ineg (hd := (by decide +kernel : decode cX11_atom2 22 = .ok (.ineg, 1)))) (
   sndC (sd_istore_n (hi := rfl) (hd := (by decide +kernel : decode cX11_atom2 23 = .ok (.istore_n 1, 1)))) (
   sndC (sd_aload_n (hi := rfl) (hd := (by decide +kernel : decode cX11_atom2 24 = .ok (.aload_n 0, 1)))) (
   sndC (sd_dup (hd := (by decide +kernel : decode cX11_atom2 25 = .ok (.dup, 1)))) (
   sndC (sd_get (C := RX11) (T := TX11) (N := 41) (hc := rfl) (hin0 := iX11) (hk := by decide) (hlink := w_1038) (hd := (by decide +kernel : decode cX11_atom2 26 = .ok (.getfield 177, 3)))) (
   sndC (sd_iconst (hd := (by decide +kernel : decode cX11_atom2 29 = .ok (.iconst 1, 1))) (hv := by decide)) (
   sndC (sd_isub (hd := (by decide +kernel : decode cX11_atom2 30 = .ok (.isub, 1)))) (
   sndC (sd_putI (C := RX11) (T := TX11) (N := 41) (hc := rfl) (hin0 := iX11) (hk := by decide) (hlink := w_1038) (ty0 := tyX11) (hty := tyX11_ok) (hnm := nmX11) (hfin := rfl) (hi := rfl) (hd := (by decide +kernel : decode cX11_atom2 31 = .ok (.putfield 177, 3)))) (
   sndC (sd_goto (ht := by decide) (hd := (by decide +kernel : decode cX11_atom2 34 = .ok (.goto 127, 3)))) (
   sndC (sd_aload_n (hi := rfl) (hd := (by decide +kernel : decode cX11_atom2 37 = .ok (.aload_n 0, 1)))) (
   sndC (sd_bipush (hd := (by decide +kernel : decode cX11_atom2 38 = .ok (.bipush 40, 2))) (hv := by decide)) (
   sndC (sd_if_eq (ht := by decide) (hd := (by decide +kernel : decode cX11_atom2 43 = .ok (.ifCond .eq 52, 3)))) (
   sndC (sd_aload_n (hi := rfl) (hd := (by decide +kernel : decode cX11_atom2 46 = .ok (.aload_n 0, 1)))) (
   sndC (sd_if_eq (ht := by decide) (hd := (by decide +kernel : decode cX11_atom2 50 = .ok (.ifCond .eq 111, 3)))) (
   sndC (sd_aload_n (hi := rfl) (hd := (by decide +kernel : decode cX11_atom2 53 = .ok (.aload_n 0, 1)))) (
   sndC (sd_istore_n (hi := rfl) (hd := (by decide +kernel : decode cX11_atom2 57 = .ok (.istore_n 1, 1)))) (
   sndC (sd_aload_n (hi := rfl) (hd := (by decide +kernel : decode cX11_atom2 58 = .ok (.aload_n 0, 1)))) (
   sndC (sd_bipush (hd := (by decide +kernel : decode cX11_atom2 59 = .ok (.bipush 41, 2))) (hv := by decide)) (
   sndC (sd_if_ne (ht := by decide) (hd := (by decide +kernel : decode cX11_atom2 64 = .ok (.ifCond .ne 7, 3)))) (
   sndC (sd_aload_n (hi := rfl) (hd := (by decide +kernel : decode cX11_atom2 67 = .ok (.aload_n 0, 1)))) (
   sndC (sd_aload_n (hi := rfl) (hd := (by decide +kernel : decode cX11_atom2 71 = .ok (.aload_n 0, 1)))) (
   sndC (sd_dup (hd := (by decide +kernel : decode cX11_atom2 72 = .ok (.dup, 1)))) (
   sndC (sd_get (C := RX11) (T := TX11) (N := 41) (hc := rfl) (hin0 := iX11) (hk := by decide) (hlink := w_1038) (hd := (by decide +kernel : decode cX11_atom2 73 = .ok (.getfield 177, 3)))) (
   sndC (sd_iconst (hd := (by decide +kernel : decode cX11_atom2 76 = .ok (.iconst 1, 1))) (hv := by decide)) (
   sndC (sd_isub (hd := (by decide +kernel : decode cX11_atom2 77 = .ok (.isub, 1)))) (
   sndC (sd_putI (C := RX11) (T := TX11) (N := 41) (hc := rfl) (hin0 := iX11) (hk := by decide) (hlink := w_1038) (ty0 := tyX11) (hty := tyX11_ok) (hnm := nmX11) (hfin := rfl) (hi := rfl) (hd := (by decide +kernel : decode cX11_atom2 78 = .ok (.putfield 177, 3)))) (
   sndC (sd_aload_n (hi := rfl) (hd := (by decide +kernel : decode cX11_atom2 81 = .ok (.aload_n 0, 1)))) (
   sndC (sd_get (C := RX11) (T := TX11) (N := 41) (hc := rfl) (hin0 := iX11) (hk := by decide) (hlink := w_1039) (hd := (by decide +kernel : decode cX11_atom2 82 = .ok (.getfield 167, 3)))) (
   sndC (sd_if_ne (ht := by decide) (hd := (by decide +kernel : decode cX11_atom2 85 = .ok (.ifCond .ne 76, 3)))) (
   sndC (sd_aload_n (hi := rfl) (hd := (by decide +kernel : decode cX11_atom2 88 = .ok (.aload_n 0, 1)))) (
   sndC (sd_goto (ht := by decide) (hd := (by decide +kernel : decode cX11_atom2 92 = .ok (.goto 69, 3)))) (
   sndC (sd_aload_n (hi := rfl) (hd := (by decide +kernel : decode cX11_atom2 95 = .ok (.aload_n 0, 1)))) (
   sndC (sd_get (C := RX11) (T := TX11) (N := 41) (hc := rfl) (hin0 := iX11) (hk := by decide) (hlink := w_1039) (hd := (by decide +kernel : decode cX11_atom2 96 = .ok (.getfield 167, 3)))) (
   sndC (sd_if_ne (ht := by decide) (hd := (by decide +kernel : decode cX11_atom2 99 = .ok (.ifCond .ne 24, 3)))) (
   sndC (sd_aload_n (hi := rfl) (hd := (by decide +kernel : decode cX11_atom2 102 = .ok (.aload_n 0, 1)))) (
   sndC (sd_get (C := RX11) (T := TX11) (N := 41) (hc := rfl) (hin0 := iX11) (hk := by decide) (hlink := w_1035) (hd := (by decide +kernel : decode cX11_atom2 103 = .ok (.getfield 152, 3)))) (
   sndC (sd_iconst (hd := (by decide +kernel : decode cX11_atom2 106 = .ok (.iconst 2, 1))) (hv := by decide)) (
   sndC (sd_cmp_ne (ht := by decide) (hd := (by decide +kernel : decode cX11_atom2 107 = .ok (.if_icmp .ne 16, 3)))) (
   sndC (sd_aload_n (hi := rfl) (hd := (by decide +kernel : decode cX11_atom2 110 = .ok (.aload_n 0, 1)))) (
   sndC (sd_get (C := RX11) (T := TX11) (N := 41) (hc := rfl) (hin0 := iX11) (hk := by decide) (hlink := w_1037) (hd := (by decide +kernel : decode cX11_atom2 111 = .ok (.getfield 163, 3)))) (
   sndC (sd_l2i (hd := (by decide +kernel : decode cX11_atom2 114 = .ok (.l2i, 1)))) (
   sndC (sd_istore_n (hi := rfl) (hd := (by decide +kernel : decode cX11_atom2 115 = .ok (.istore_n 1, 1)))) (
   sndC (sd_aload_n (hi := rfl) (hd := (by decide +kernel : decode cX11_atom2 116 = .ok (.aload_n 0, 1)))) (
   sndC (sd_goto (ht := by decide) (hd := (by decide +kernel : decode cX11_atom2 120 = .ok (.goto 41, 3)))) (
   sndC (sd_aload_n (hi := rfl) (hd := (by decide +kernel : decode cX11_atom2 123 = .ok (.aload_n 0, 1)))) (
   sndC (sd_get (C := RX11) (T := TX11) (N := 41) (hc := rfl) (hin0 := iX11) (hk := by decide) (hlink := w_1039) (hd := (by decide +kernel : decode cX11_atom2 124 = .ok (.getfield 167, 3)))) (
   sndC (sd_if_ne (ht := by decide) (hd := (by decide +kernel : decode cX11_atom2 127 = .ok (.ifCond .ne 30, 3)))) (
   sndC (sd_aload_n (hi := rfl) (hd := (by decide +kernel : decode cX11_atom2 130 = .ok (.aload_n 0, 1)))) (
   sndC (sd_get (C := RX11) (T := TX11) (N := 41) (hc := rfl) (hin0 := iX11) (hk := by decide) (hlink := w_1035) (hd := (by decide +kernel : decode cX11_atom2 131 = .ok (.getfield 152, 3)))) (
   sndC (sd_iconst (hd := (by decide +kernel : decode cX11_atom2 134 = .ok (.iconst 1, 1))) (hv := by decide)) (
   sndC (sd_cmp_ne (ht := by decide) (hd := (by decide +kernel : decode cX11_atom2 135 = .ok (.if_icmp .ne 22, 3)))) (
   sndC (sd_aload_n (hi := rfl) (hd := (by decide +kernel : decode cX11_atom2 138 = .ok (.aload_n 0, 1)))) (
   sndC (sd_istore_n (hi := rfl) (hd := (by decide +kernel : decode cX11_atom2 142 = .ok (.istore_n 1, 1)))) (
   sndC (sd_aload_n (hi := rfl) (hd := (by decide +kernel : decode cX11_atom2 143 = .ok (.aload_n 0, 1)))) (
   sndC (sd_get (C := RX11) (T := TX11) (N := 41) (hc := rfl) (hin0 := iX11) (hk := by decide) (hlink := w_1039) (hd := (by decide +kernel : decode cX11_atom2 144 = .ok (.getfield 167, 3)))) (
   sndC (sd_if_ne (ht := by decide) (hd := (by decide +kernel : decode cX11_atom2 147 = .ok (.ifCond .ne 14, 3)))) (
   sndC (sd_aload_n (hi := rfl) (hd := (by decide +kernel : decode cX11_atom2 150 = .ok (.aload_n 0, 1)))) (
   sndC (sd_goto (ht := by decide) (hd := (by decide +kernel : decode cX11_atom2 154 = .ok (.goto 7, 3)))) (
   sndC (sd_aload_n (hi := rfl) (hd := (by decide +kernel : decode cX11_atom2 157 = .ok (.aload_n 0, 1)))) (
   sndC (sd_iload_n (hi := rfl) (hd := (by decide +kernel : decode cX11_atom2 161 = .ok (.iload_n 1, 1)))) (
   sndN))))))))))))))))))))))))))))))))))))))))))))))))))))))))))))))))))))⟩
theorem kX11_atom2_5 : CallAt mX11_atom2 5 0 mX11_isSign 1 := ⟨by decide +kernel, ⟨_, (by decide +kernel : decode cX11_atom2 5 = .ok (.invokevirtual 208, 3)), w_1264, w_1266, w_71⟩⟩
theorem kX11_atom2_12 : CallAt mX11_atom2 12 0 mX11_opens 0 := ⟨by decide +kernel, ⟨_, (by decide +kernel : decode cX11_atom2 12 = .ok (.invokevirtual 211, 3)), w_1228, w_1230, w_62⟩⟩
theorem kX11_atom2_19 : CallAt mX11_atom2 19 0 mX11_atom3 0 := ⟨by decide +kernel, ⟨_, (by decide +kernel : decode cX11_atom2 19 = .ok (.invokevirtual 259, 3)), w_1302, w_1304, w_80⟩⟩
theorem kX11_atom2_40 : CallAt mX11_atom2 40 0 mX11_isSign 1 := ⟨by decide +kernel, ⟨_, (by decide +kernel : decode cX11_atom2 40 = .ok (.invokevirtual 208, 3)), w_1264, w_1266, w_71⟩⟩
theorem kX11_atom2_47 : CallAt mX11_atom2 47 0 mX11_opens 0 := ⟨by decide +kernel, ⟨_, (by decide +kernel : decode cX11_atom2 47 = .ok (.invokevirtual 211, 3)), w_1228, w_1230, w_62⟩⟩
theorem kX11_atom2_54 : CallAt mX11_atom2 54 0 mX11_either3 0 := ⟨by decide +kernel, ⟨_, (by decide +kernel : decode cX11_atom2 54 = .ok (.invokevirtual 274, 3)), w_1326, w_1328, w_86⟩⟩
theorem kX11_atom2_61 : CallAt mX11_atom2 61 0 mX11_isSign 1 := ⟨by decide +kernel, ⟨_, (by decide +kernel : decode cX11_atom2 61 = .ok (.invokevirtual 208, 3)), w_1264, w_1266, w_71⟩⟩
theorem kX11_atom2_68 : CallAt mX11_atom2 68 0 mX11_fail 0 := ⟨by decide +kernel, ⟨_, (by decide +kernel : decode cX11_atom2 68 = .ok (.invokevirtual 180, 3)), w_1212, w_1214, w_58⟩⟩
theorem kX11_atom2_89 : CallAt mX11_atom2 89 0 mX11_nextToken 0 := ⟨by decide +kernel, ⟨_, (by decide +kernel : decode cX11_atom2 89 = .ok (.invokevirtual 183, 3)), w_1188, w_1190, w_53⟩⟩
theorem kX11_atom2_117 : CallAt mX11_atom2 117 0 mX11_nextToken 0 := ⟨by decide +kernel, ⟨_, (by decide +kernel : decode cX11_atom2 117 = .ok (.invokevirtual 183, 3)), w_1188, w_1190, w_53⟩⟩
theorem kX11_atom2_139 : CallAt mX11_atom2 139 0 mX11_name 0 := ⟨by decide +kernel, ⟨_, (by decide +kernel : decode cX11_atom2 139 = .ok (.invokevirtual 215, 3)), w_1268, w_1270, w_72⟩⟩
theorem kX11_atom2_151 : CallAt mX11_atom2 151 0 mX11_nextToken 0 := ⟨by decide +kernel, ⟨_, (by decide +kernel : decode cX11_atom2 151 = .ok (.invokevirtual 183, 3)), w_1188, w_1190, w_53⟩⟩
theorem kX11_atom2_158 : CallAt mX11_atom2 158 0 mX11_fail 0 := ⟨by decide +kernel, ⟨_, (by decide +kernel : decode cX11_atom2 158 = .ok (.invokevirtual 180, 3)), w_1212, w_1214, w_58⟩⟩

set_option maxRecDepth 20000 in
theorem GX11_term2 : Good mX11_term2 := ⟨by decide +kernel, List.mem_of_getElem? (i := 1321) (by decide +kernel), inX11, ⟨by decide +kernel, by decide +kernel⟩, by decide, show ∀ q ∈ tX11_term2, Snd mX11_term2 q.1 q.2 from
  sndC (sd_aload_n (hi := rfl) (hd := (by decide +kernel : decode cX11_term2 0 = .ok (.aload_n 0, 1)))) (
   sndC (sd_istore_n (hi := rfl) (hd := (by decide +kernel : decode cX11_term2 4 = .ok (.istore_n 1, 1)))) (
   sndC (sd_aload_n (hi := rfl) (hd := (by decide +kernel : decode cX11_term2 5 = .ok (.aload_n 0, 1)))) (
   sndC (sd_bipush (hd := (by decide +kernel : decode cX11_term2 6 = .ok (.bipush 42, 2))) (hv := by decide)) (
   sndC (sd_if_eq (ht := by decide) (hd := (by decide +kernel : decode cX11_term2 11 = .ok (.ifCond .eq 17, 3)))) (
   sndC (sd_aload_n (hi := rfl) (hd := (by decide +kernel : decode cX11_term2 14 = .ok (.aload_n 0, 1)))) (
   sndC (sd_iload_n (hi := rfl) (hd := (by decide +kernel : decode cX11_term2 18 = .ok (.iload_n 1, 1)))) (
   sndC (sd_aload_n (hi := rfl) (hd := (by decide +kernel : decode cX11_term2 19 = .ok (.aload_n 0, 1)))) (
   sndC (sd_imul (hd := (by decide +kernel : decode cX11_term2 23 = .ok (.imul, 1)))) (
   sndC (sd_istore_n (hi := rfl) (hd := (by decide +kernel : decode cX11_term2 24 = .ok (.istore_n 1, 1)))) (
   sndC (sd_goto (ht := by decide) (hd := (by decide +kernel : decode cX11_term2 25 = .ok (.goto (-20), 3)))) (
   sndC (sd_iload_n (hi := rfl) (hd := (by decide +kernel : decode cX11_term2 28 = .ok (.iload_n 1, 1)))) (
   sndN))))))))))))⟩
theorem kX11_term2_1 : CallAt mX11_term2 1 0 mX11_atom2 0 := ⟨by decide +kernel, ⟨_, (by decide +kernel : decode cX11_term2 1 = .ok (.invokevirtual 277, 3)), w_1322, w_1324, w_85⟩⟩
theorem kX11_term2_8 : CallAt mX11_term2 8 0 mX11_isSign 1 := ⟨by decide +kernel, ⟨_, (by decide +kernel : decode cX11_term2 8 = .ok (.invokevirtual 208, 3)), w_1264, w_1266, w_71⟩⟩
theorem kX11_term2_15 : CallAt mX11_term2 15 0 mX11_nextToken 0 := ⟨by decide +kernel, ⟨_, (by decide +kernel : decode cX11_term2 15 = .ok (.invokevirtual 183, 3)), w_1188, w_1190, w_53⟩⟩
theorem kX11_term2_20 : CallAt mX11_term2 20 0 mX11_atom2 0 := ⟨by decide +kernel, ⟨_, (by decide +kernel : decode cX11_term2 20 = .ok (.invokevirtual 277, 3)), w_1322, w_1324, w_85⟩⟩

set_option maxRecDepth 20000 in
theorem GX11_added2 : Good mX11_added2 := ⟨by decide +kernel, List.mem_of_getElem? (i := 1317) (by decide +kernel), inX11, ⟨by decide +kernel, by decide +kernel⟩, by decide, show ∀ q ∈ tX11_added2, Snd mX11_added2 q.1 q.2 from
  sndC (sd_aload_n (hi := rfl) (hd := (by decide +kernel : decode cX11_added2 0 = .ok (.aload_n 0, 1)))) (
   sndC (sd_istore_n (hi := rfl) (hd := (by decide +kernel : decode cX11_added2 4 = .ok (.istore_n 1, 1)))) (
   sndC (sd_aload_n (hi := rfl) (hd := (by decide +kernel : decode cX11_added2 5 = .ok (.aload_n 0, 1)))) (
   sndC (sd_bipush (hd := (by decide +kernel : decode cX11_added2 6 = .ok (.bipush 43, 2))) (hv := by decide)) (
   sndC (sd_if_ne (ht := by decide) (hd := (by decide +kernel : decode cX11_added2 11 = .ok (.ifCond .ne 12, 3)))) (
   sndC (sd_aload_n (hi := rfl) (hd := (by decide +kernel : decode cX11_added2 14 = .ok (.aload_n 0, 1)))) (
   sndC (sd_bipush (hd := (by decide +kernel : decode cX11_added2 15 = .ok (.bipush 45, 2))) (hv := by decide)) (
   sndC (sd_if_eq (ht := by decide) (hd := (by decide +kernel : decode cX11_added2 20 = .ok (.ifCond .eq 46, 3)))) (
   sndC (sd_aload_n (hi := rfl) (hd := (by decide +kernel : decode cX11_added2 23 = .ok (.aload_n 0, 1)))) (
   sndC (sd_get (C := RX11) (T := TX11) (N := 41) (hc := rfl) (hin0 := iX11) (hk := by decide) (hlink := w_1037) (hd := (by decide +kernel : decode cX11_added2 24 = .ok (.getfield 163, 3)))) (
   sndC (sd_ldc2 (hw := w_1272) (hd := (by decide +kernel : decode cX11_added2 27 = .ok (.ldc2_w 225, 3)))) (
   sndC (sd_lcmp (hd := (by decide +kernel : decode cX11_added2 30 = .ok (.lcmp, 1)))) (
   sndC (sd_if_ne (ht := by decide) (hd := (by decide +kernel : decode cX11_added2 31 = .ok (.ifCond .ne 7, 3)))) (
   sndC (sd_iconst (hd := (by decide +kernel : decode cX11_added2 34 = .ok (.iconst 1, 1))) (hv := by decide)) (
   sndC (sd_goto (ht := by decide) (hd := (by decide +kernel : decode cX11_added2 35 = .ok (.goto 4, 3)))) (
   sndC (sd_iconst (hd := (by decide +kernel : decode cX11_added2 38 = .ok (.iconst 0, 1))) (hv := by decide)) (
   sndC (sd_istore_n (hi := rfl) (hd := (by decide +kernel : decode cX11_added2 39 = .ok (.istore_n 2, 1)))) (
   sndC (sd_aload_n (hi := rfl) (hd := (by decide +kernel : decode cX11_added2 40 = .ok (.aload_n 0, 1)))) (
   sndC (sd_aload_n (hi := rfl) (hd := (by decide +kernel : decode cX11_added2 44 = .ok (.aload_n 0, 1)))) (
   sndC (sd_istore_n (hi := rfl) (hd := (by decide +kernel : decode cX11_added2 48 = .ok (.istore_n 3, 1)))) (
   sndC (sd_iload_n (hi := rfl) (hd := (by decide +kernel : decode cX11_added2 49 = .ok (.iload_n 2, 1)))) (
   sndC (sd_if_eq (ht := by decide) (hd := (by decide +kernel : decode cX11_added2 50 = .ok (.ifCond .eq 9, 3)))) (
   sndC (sd_iload_n (hi := rfl) (hd := (by decide +kernel : decode cX11_added2 53 = .ok (.iload_n 1, 1)))) (
   sndC (sd_iload_n (hi := rfl) (hd := (by decide +kernel : decode cX11_added2 54 = .ok (.iload_n 3, 1)))) (
   sndC (sd_iadd (hd := (by decide +kernel : decode cX11_added2 55 = .ok (.iadd, 1)))) (
   sndC (sd_goto (ht := by decide) (hd := (by decide +kernel : decode cX11_added2 56 = .ok (.goto 6, 3)))) (
   sndC (sd_iload_n (hi := rfl) (hd := (by decide +kernel : decode cX11_added2 59 = .ok (.iload_n 1, 1)))) (
   sndC (sd_iload_n (hi := rfl) (hd := (by decide +kernel : decode cX11_added2 60 = .ok (.iload_n 3, 1)))) (
   sndC (sd_isub (hd := (by decide +kernel : decode cX11_added2 61 = .ok (.isub, 1)))) (
   sndC (sd_istore_n (hi := rfl) (hd := (by decide +kernel : decode cX11_added2 62 = .ok (.istore_n 1, 1)))) (
   sndC (sd_goto (ht := by decide) (hd := (by decide +kernel : decode cX11_added2 63 = .ok (.goto (-58), 3)))) (
   sndC (sd_iload_n (hi := rfl) (hd := (by decide +kernel : decode cX11_added2 66 = .ok (.iload_n 1, 1)))) (
   sndN))))))))))))))))))))))))))))))))⟩
theorem kX11_added2_1 : CallAt mX11_added2 1 0 mX11_term2 0 := ⟨by decide +kernel, ⟨_, (by decide +kernel : decode cX11_added2 1 = .ok (.invokevirtual 280, 3)), w_1318, w_1320, w_84⟩⟩
theorem kX11_added2_8 : CallAt mX11_added2 8 0 mX11_isSign 1 := ⟨by decide +kernel, ⟨_, (by decide +kernel : decode cX11_added2 8 = .ok (.invokevirtual 208, 3)), w_1264, w_1266, w_71⟩⟩
theorem kX11_added2_17 : CallAt mX11_added2 17 0 mX11_isSign 1 := ⟨by decide +kernel, ⟨_, (by decide +kernel : decode cX11_added2 17 = .ok (.invokevirtual 208, 3)), w_1264, w_1266, w_71⟩⟩
theorem kX11_added2_41 : CallAt mX11_added2 41 0 mX11_nextToken 0 := ⟨by decide +kernel, ⟨_, (by decide +kernel : decode cX11_added2 41 = .ok (.invokevirtual 183, 3)), w_1188, w_1190, w_53⟩⟩
theorem kX11_added2_45 : CallAt mX11_added2 45 0 mX11_term2 0 := ⟨by decide +kernel, ⟨_, (by decide +kernel : decode cX11_added2 45 = .ok (.invokevirtual 280, 3)), w_1318, w_1320, w_84⟩⟩

set_option maxRecDepth 20000 in
theorem GX11_not2 : Good mX11_not2 := ⟨by decide +kernel, List.mem_of_getElem? (i := 1239) (by decide +kernel), inX11, ⟨by decide +kernel, by decide +kernel⟩, by decide, show ∀ q ∈ tX11_not2, Snd mX11_not2 q.1 q.2 from
  sndC (sd_aload_n (hi := rfl) (hd := (by decide +kernel : decode cX11_not2 0 = .ok (.aload_n 0, 1)))) (
   sndC (sd_bipush (hd := (by decide +kernel : decode cX11_not2 1 = .ok (.bipush 110, 2))) (hv := by decide)) (
   sndC (sd_bipush (hd := (by decide +kernel : decode cX11_not2 3 = .ok (.bipush 111, 2))) (hv := by decide)) (
   sndC (sd_bipush (hd := (by decide +kernel : decode cX11_not2 5 = .ok (.bipush 116, 2))) (hv := by decide)) (
   sndC (sd_iconst (hd := (by decide +kernel : decode cX11_not2 7 = .ok (.iconst 0, 1))) (hv := by decide)) (
   sndC (sd_iconst (hd := (by decide +kernel : decode cX11_not2 8 = .ok (.iconst 0, 1))) (hv := by decide)) (
   sndC (sd_iconst (hd := (by decide +kernel : decode cX11_not2 9 = .ok (.iconst 0, 1))) (hv := by decide)) (
   sndC (sd_iconst (hd := (by decide +kernel : decode cX11_not2 10 = .ok (.iconst 0, 1))) (hv := by decide)) (
   sndC (sd_iconst (hd := (by decide +kernel : decode cX11_not2 11 = .ok (.iconst 0, 1))) (hv := by decide)) (
   sndC (sd_if_eq (ht := by decide) (hd := (by decide +kernel : decode cX11_not2 15 = .ok (.ifCond .eq 37, 3)))) (
   sndC (sd_aload_n (hi := rfl) (hd := (by decide +kernel : decode cX11_not2 18 = .ok (.aload_n 0, 1)))) (
   sndC (sd_if_ne (ht := by decide) (hd := (by decide +kernel : decode cX11_not2 22 = .ok (.ifCond .ne 5, 3)))) (
   sndC (sd_iconst (hd := (by decide +kernel : decode cX11_not2 25 = .ok (.iconst 0, 1))) (hv := by decide)) (
   sndC (sd_aload_n (hi := rfl) (hd := (by decide +kernel : decode cX11_not2 27 = .ok (.aload_n 0, 1)))) (
   sndC (sd_istore_n (hi := rfl) (hd := (by decide +kernel : decode cX11_not2 31 = .ok (.istore_n 1, 1)))) (
   sndC (sd_aload_n (hi := rfl) (hd := (by decide +kernel : decode cX11_not2 32 = .ok (.aload_n 0, 1)))) (
   sndC (sd_dup (hd := (by decide +kernel : decode cX11_not2 33 = .ok (.dup, 1)))) (
   sndC (sd_get (C := RX11) (T := TX11) (N := 41) (hc := rfl) (hin0 := iX11) (hk := by decide) (hlink := w_1038) (hd := (by decide +kernel : decode cX11_not2 34 = .ok (.getfield 177, 3)))) (
   sndC (sd_iconst (hd := (by decide +kernel : decode cX11_not2 37 = .ok (.iconst 1, 1))) (hv := by decide)) (
   sndC (sd_isub (hd := (by decide +kernel : decode cX11_not2 38 = .ok (.isub, 1)))) (
   sndC (sd_putI (C := RX11) (T := TX11) (N := 41) (hc := rfl) (hin0 := iX11) (hk := by decide) (hlink := w_1038) (ty0 := tyX11) (hty := tyX11_ok) (hnm := nmX11) (hfin := rfl) (hi := rfl) (hd := (by decide +kernel : decode cX11_not2 39 = .ok (.putfield 177, 3)))) (
   sndC (sd_iload_n (hi := rfl) (hd := (by decide +kernel : decode cX11_not2 42 = .ok (.iload_n 1, 1)))) (
   sndC (sd_if_ne (ht := by decide) (hd := (by decide +kernel : decode cX11_not2 43 = .ok (.ifCond .ne 7, 3)))) (
   sndC (sd_iconst (hd := (by decide +kernel : decode cX11_not2 46 = .ok (.iconst 1, 1))) (hv := by decide)) (
   sndC (sd_goto (ht := by decide) (hd := (by decide +kernel : decode cX11_not2 47 = .ok (.goto 4, 3)))) (
   sndC (sd_iconst (hd := (by decide +kernel : decode cX11_not2 50 = .ok (.iconst 0, 1))) (hv := by decide)) (
   sndC (sd_aload_n (hi := rfl) (hd := (by decide +kernel : decode cX11_not2 52 = .ok (.aload_n 0, 1)))) (
   sndC (sd_istore_n (hi := rfl) (hd := (by decide +kernel : decode cX11_not2 56 = .ok (.istore_n 1, 1)))) (
   sndC (sd_aload_n (hi := rfl) (hd := (by decide +kernel : decode cX11_not2 57 = .ok (.aload_n 0, 1)))) (
   sndC (sd_bipush (hd := (by decide +kernel : decode cX11_not2 58 = .ok (.bipush 60, 2))) (hv := by decide)) (
   sndC (sd_if_ne (ht := by decide) (hd := (by decide +kernel : decode cX11_not2 63 = .ok (.ifCond .ne 14, 3)))) (
   sndC (sd_aload_n (hi := rfl) (hd := (by decide +kernel : decode cX11_not2 66 = .ok (.aload_n 0, 1)))) (
   sndC (sd_bipush (hd := (by decide +kernel : decode cX11_not2 67 = .ok (.bipush 61, 2))) (hv := by decide)) (
   sndC (sd_if_ne (ht := by decide) (hd := (by decide +kernel : decode cX11_not2 72 = .ok (.ifCond .ne 5, 3)))) (
   sndC (sd_iload_n (hi := rfl) (hd := (by decide +kernel : decode cX11_not2 75 = .ok (.iload_n 1, 1)))) (
   sndC (sd_aload_n (hi := rfl) (hd := (by decide +kernel : decode cX11_not2 77 = .ok (.aload_n 0, 1)))) (
   sndC (sd_get (C := RX11) (T := TX11) (N := 41) (hc := rfl) (hin0 := iX11) (hk := by decide) (hlink := w_1037) (hd := (by decide +kernel : decode cX11_not2 78 = .ok (.getfield 163, 3)))) (
   sndC (sd_ldc2 (hw := w_1273) (hd := (by decide +kernel : decode cX11_not2 81 = .ok (.ldc2_w 230, 3)))) (
   sndC (sd_lcmp (hd := (by decide +kernel : decode cX11_not2 84 = .ok (.lcmp, 1)))) (
   sndC (sd_if_ne (ht := by decide) (hd := (by decide +kernel : decode cX11_not2 85 = .ok (.ifCond .ne 7, 3)))) (
   sndC (sd_iconst (hd := (by decide +kernel : decode cX11_not2 88 = .ok (.iconst 1, 1))) (hv := by decide)) (
   sndC (sd_goto (ht := by decide) (hd := (by decide +kernel : decode cX11_not2 89 = .ok (.goto 4, 3)))) (
   sndC (sd_iconst (hd := (by decide +kernel : decode cX11_not2 92 = .ok (.iconst 0, 1))) (hv := by decide)) (
   sndC (sd_istore_n (hi := rfl) (hd := (by decide +kernel : decode cX11_not2 93 = .ok (.istore_n 2, 1)))) (
   sndC (sd_aload_n (hi := rfl) (hd := (by decide +kernel : decode cX11_not2 94 = .ok (.aload_n 0, 1)))) (
   sndC (sd_aload_n (hi := rfl) (hd := (by decide +kernel : decode cX11_not2 98 = .ok (.aload_n 0, 1)))) (
   sndC (sd_istore_n (hi := rfl) (hd := (by decide +kernel : decode cX11_not2 102 = .ok (.istore_n 3, 1)))) (
   sndC (sd_iload_n (hi := rfl) (hd := (by decide +kernel : decode cX11_not2 103 = .ok (.iload_n 2, 1)))) (
   sndC (sd_if_eq (ht := by decide) (hd := (by decide +kernel : decode cX11_not2 104 = .ok (.ifCond .eq 11, 3)))) (
   sndC (sd_iload_n (hi := rfl) (hd := (by decide +kernel : decode cX11_not2 107 = .ok (.iload_n 1, 1)))) (
   sndC (sd_iload_n (hi := rfl) (hd := (by decide +kernel : decode cX11_not2 108 = .ok (.iload_n 3, 1)))) (
   sndC (sd_cmp_ge (ht := by decide) (hd := (by decide +kernel : decode cX11_not2 109 = .ok (.if_icmp .ge 15, 3)))) (
   sndC (sd_goto (ht := by decide) (hd := (by decide +kernel : decode cX11_not2 112 = .ok (.goto 8, 3)))) (
   sndC (sd_iload_n (hi := rfl) (hd := (by decide +kernel : decode cX11_not2 115 = .ok (.iload_n 1, 1)))) (
   sndC (sd_iload_n (hi := rfl) (hd := (by decide +kernel : decode cX11_not2 116 = .ok (.iload_n 3, 1)))) (
   sndC (sd_cmp_ne (ht := by decide) (hd := (by decide +kernel : decode cX11_not2 117 = .ok (.if_icmp .ne 7, 3)))) (
   sndC (sd_iconst (hd := (by decide +kernel : decode cX11_not2 120 = .ok (.iconst 1, 1))) (hv := by decide)) (
   sndC (sd_goto (ht := by decide) (hd := (by decide +kernel : decode cX11_not2 121 = .ok (.goto 4, 3)))) (
   sndC (sd_iconst (hd := (by decide +kernel : decode cX11_not2 124 = .ok (.iconst 0, 1))) (hv := by decide)) (
   sndN)))))))))))))))))))))))))))))))))))))))))))))))))))))))))))⟩
theorem kX11_not2_12 : CallAt mX11_not2 12 0 mX11_isWord 8 := ⟨by decide +kernel, ⟨_, (by decide +kernel : decode cX11_not2 12 = .ok (.invokevirtual 186, 3)), w_1200, w_1202, w_55⟩⟩
theorem kX11_not2_19 : CallAt mX11_not2 19 0 mX11_opens 0 := ⟨by decide +kernel, ⟨_, (by decide +kernel : decode cX11_not2 19 = .ok (.invokevirtual 211, 3)), w_1228, w_1230, w_62⟩⟩
theorem kX11_not2_28 : CallAt mX11_not2 28 0 mX11_not3 0 := ⟨by decide +kernel, ⟨_, (by decide +kernel : decode cX11_not2 28 = .ok (.invokevirtual 268, 3)), w_1240, w_1242, w_65⟩⟩
theorem kX11_not2_53 : CallAt mX11_not2 53 0 mX11_added2 0 := ⟨by decide +kernel, ⟨_, (by decide +kernel : decode cX11_not2 53 = .ok (.invokevirtual 283, 3)), w_1314, w_1316, w_83⟩⟩
theorem kX11_not2_60 : CallAt mX11_not2 60 0 mX11_isSign 1 := ⟨by decide +kernel, ⟨_, (by decide +kernel : decode cX11_not2 60 = .ok (.invokevirtual 208, 3)), w_1264, w_1266, w_71⟩⟩
theorem kX11_not2_69 : CallAt mX11_not2 69 0 mX11_isSign 1 := ⟨by decide +kernel, ⟨_, (by decide +kernel : decode cX11_not2 69 = .ok (.invokevirtual 208, 3)), w_1264, w_1266, w_71⟩⟩
theorem kX11_not2_95 : CallAt mX11_not2 95 0 mX11_nextToken 0 := ⟨by decide +kernel, ⟨_, (by decide +kernel : decode cX11_not2 95 = .ok (.invokevirtual 183, 3)), w_1188, w_1190, w_53⟩⟩
theorem kX11_not2_99 : CallAt mX11_not2 99 0 mX11_added2 0 := ⟨by decide +kernel, ⟨_, (by decide +kernel : decode cX11_not2 99 = .ok (.invokevirtual 283, 3)), w_1314, w_1316, w_83⟩⟩

set_option maxRecDepth 20000 in
theorem GX11_both2 : Good mX11_both2 := ⟨by decide +kernel, List.mem_of_getElem? (i := 1353) (by decide +kernel), inX11, ⟨by decide +kernel, by decide +kernel⟩, by decide, show ∀ q ∈ tX11_both2, Snd mX11_both2 q.1 q.2 from
  sndC (sd_aload_n (hi := rfl) (hd := (by decide +kernel : decode cX11_both2 0 = .ok (.aload_n 0, 1)))) (
   sndC (sd_istore_n (hi := rfl) (hd := (by decide +kernel : decode cX11_both2 4 = .ok (.istore_n 1, 1)))) (
   sndC (sd_aload_n (hi := rfl) (hd := (by decide +kernel : decode cX11_both2 5 = .ok (.aload_n 0, 1)))) (
   sndC (sd_bipush (hd := (by decide +kernel : decode cX11_both2 6 = .ok (.bipush 97, 2))) (hv := by decide)) (
   sndC (sd_bipush (hd := (by decide +kernel : decode cX11_both2 8 = .ok (.bipush 110, 2))) (hv := by decide)) (
   sndC (sd_bipush (hd := (by decide +kernel : decode cX11_both2 10 = .ok (.bipush 100, 2))) (hv := by decide)) (
   sndC (sd_iconst (hd := (by decide +kernel : decode cX11_both2 12 = .ok (.iconst 0, 1))) (hv := by decide)) (
   sndC (sd_iconst (hd := (by decide +kernel : decode cX11_both2 13 = .ok (.iconst 0, 1))) (hv := by decide)) (
   sndC (sd_iconst (hd := (by decide +kernel : decode cX11_both2 14 = .ok (.iconst 0, 1))) (hv := by decide)) (
   sndC (sd_iconst (hd := (by decide +kernel : decode cX11_both2 15 = .ok (.iconst 0, 1))) (hv := by decide)) (
   sndC (sd_iconst (hd := (by decide +kernel : decode cX11_both2 16 = .ok (.iconst 0, 1))) (hv := by decide)) (
   sndC (sd_if_eq (ht := by decide) (hd := (by decide +kernel : decode cX11_both2 20 = .ok (.ifCond .eq 29, 3)))) (
   sndC (sd_aload_n (hi := rfl) (hd := (by decide +kernel : decode cX11_both2 23 = .ok (.aload_n 0, 1)))) (
   sndC (sd_aload_n (hi := rfl) (hd := (by decide +kernel : decode cX11_both2 27 = .ok (.aload_n 0, 1)))) (
   sndC (sd_istore_n (hi := rfl) (hd := (by decide +kernel : decode cX11_both2 31 = .ok (.istore_n 2, 1)))) (
   sndC (sd_iload_n (hi := rfl) (hd := (by decide +kernel : decode cX11_both2 32 = .ok (.iload_n 1, 1)))) (
   sndC (sd_if_eq (ht := by decide) (hd := (by decide +kernel : decode cX11_both2 33 = .ok (.ifCond .eq 11, 3)))) (
   sndC (sd_iload_n (hi := rfl) (hd := (by decide +kernel : decode cX11_both2 36 = .ok (.iload_n 2, 1)))) (
   sndC (sd_if_eq (ht := by decide) (hd := (by decide +kernel : decode cX11_both2 37 = .ok (.ifCond .eq 7, 3)))) (
   sndC (sd_iconst (hd := (by decide +kernel : decode cX11_both2 40 = .ok (.iconst 1, 1))) (hv := by decide)) (
   sndC (sd_goto (ht := by decide) (hd := (by decide +kernel : decode cX11_both2 41 = .ok (.goto 4, 3)))) (
   sndC (sd_iconst (hd := (by decide +kernel : decode cX11_both2 44 = .ok (.iconst 0, 1))) (hv := by decide)) (
   sndC (sd_istore_n (hi := rfl) (hd := (by decide +kernel : decode cX11_both2 45 = .ok (.istore_n 1, 1)))) (
   sndC (sd_goto (ht := by decide) (hd := (by decide +kernel : decode cX11_both2 46 = .ok (.goto (-41), 3)))) (
   sndC (sd_iload_n (hi := rfl) (hd := (by decide +kernel : decode cX11_both2 49 = .ok (.iload_n 1, 1)))) (
   sndN)))))))))))))))))))))))))⟩
theorem kX11_both2_1 : CallAt mX11_both2 1 0 mX11_not2 0 := ⟨by decide +kernel, ⟨_, (by decide +kernel : decode cX11_both2 1 = .ok (.invokevirtual 286, 3)), w_1236, w_1238, w_64⟩⟩
theorem kX11_both2_17 : CallAt mX11_both2 17 0 mX11_isWord 8 := ⟨by decide +kernel, ⟨_, (by decide +kernel : decode cX11_both2 17 = .ok (.invokevirtual 186, 3)), w_1200, w_1202, w_55⟩⟩
theorem kX11_both2_24 : CallAt mX11_both2 24 0 mX11_nextToken 0 := ⟨by decide +kernel, ⟨_, (by decide +kernel : decode cX11_both2 24 = .ok (.invokevirtual 183, 3)), w_1188, w_1190, w_53⟩⟩
theorem kX11_both2_28 : CallAt mX11_both2 28 0 mX11_not2 0 := ⟨by decide +kernel, ⟨_, (by decide +kernel : decode cX11_both2 28 = .ok (.invokevirtual 286, 3)), w_1236, w_1238, w_64⟩⟩

set_option maxRecDepth 20000 in
theorem GX11_either2 : Good mX11_either2 := ⟨by decide +kernel, List.mem_of_getElem? (i := 1349) (by decide +kernel), inX11, ⟨by decide +kernel, by decide +kernel⟩, by decide, show ∀ q ∈ tX11_either2, Snd mX11_either2 q.1 q.2 from
  sndC (sd_aload_n (hi := rfl) (hd := (by decide +kernel : decode cX11_either2 0 = .ok (.aload_n 0, 1)))) (
   sndC (sd_istore_n (hi := rfl) (hd := (by decide +kernel : decode cX11_either2 4 = .ok (.istore_n 1, 1)))) (
   sndC (sd_aload_n (hi := rfl) (hd := (by decide +kernel : decode cX11_either2 5 = .ok (.aload_n 0, 1)))) (
   sndC (sd_bipush (hd := (by decide +kernel : decode cX11_either2 6 = .ok (.bipush 111, 2))) (hv := by decide)) (
   sndC (sd_bipush (hd := (by decide +kernel : decode cX11_either2 8 = .ok (.bipush 114, 2))) (hv := by decide)) (
   sndC (sd_iconst (hd := (by decide +kernel : decode cX11_either2 10 = .ok (.iconst 0, 1))) (hv := by decide)) (
   sndC (sd_iconst (hd := (by decide +kernel : decode cX11_either2 11 = .ok (.iconst 0, 1))) (hv := by decide)) (
   sndC (sd_iconst (hd := (by decide +kernel : decode cX11_either2 12 = .ok (.iconst 0, 1))) (hv := by decide)) (
   sndC (sd_iconst (hd := (by decide +kernel : decode cX11_either2 13 = .ok (.iconst 0, 1))) (hv := by decide)) (
   sndC (sd_iconst (hd := (by decide +kernel : decode cX11_either2 14 = .ok (.iconst 0, 1))) (hv := by decide)) (
   sndC (sd_iconst (hd := (by decide +kernel : decode cX11_either2 15 = .ok (.iconst 0, 1))) (hv := by decide)) (
   sndC (sd_if_eq (ht := by decide) (hd := (by decide +kernel : decode cX11_either2 19 = .ok (.ifCond .eq 29, 3)))) (
   sndC (sd_aload_n (hi := rfl) (hd := (by decide +kernel : decode cX11_either2 22 = .ok (.aload_n 0, 1)))) (
   sndC (sd_aload_n (hi := rfl) (hd := (by decide +kernel : decode cX11_either2 26 = .ok (.aload_n 0, 1)))) (
   sndC (sd_istore_n (hi := rfl) (hd := (by decide +kernel : decode cX11_either2 30 = .ok (.istore_n 2, 1)))) (
   sndC (sd_iload_n (hi := rfl) (hd := (by decide +kernel : decode cX11_either2 31 = .ok (.iload_n 1, 1)))) (
   sndC (sd_if_ne (ht := by decide) (hd := (by decide +kernel : decode cX11_either2 32 = .ok (.ifCond .ne 7, 3)))) (
   sndC (sd_iload_n (hi := rfl) (hd := (by decide +kernel : decode cX11_either2 35 = .ok (.iload_n 2, 1)))) (
   sndC (sd_if_eq (ht := by decide) (hd := (by decide +kernel : decode cX11_either2 36 = .ok (.ifCond .eq 7, 3)))) (
   sndC (sd_iconst (hd := (by decide +kernel : decode cX11_either2 39 = .ok (.iconst 1, 1))) (hv := by decide)) (
   sndC (sd_goto (ht := by decide) (hd := (by decide +kernel : decode cX11_either2 40 = .ok (.goto 4, 3)))) (
   sndC (sd_iconst (hd := (by decide +kernel : decode cX11_either2 43 = .ok (.iconst 0, 1))) (hv := by decide)) (
   sndC (sd_istore_n (hi := rfl) (hd := (by decide +kernel : decode cX11_either2 44 = .ok (.istore_n 1, 1)))) (
   sndC (sd_goto (ht := by decide) (hd := (by decide +kernel : decode cX11_either2 45 = .ok (.goto (-40), 3)))) (
   sndC (sd_iload_n (hi := rfl) (hd := (by decide +kernel : decode cX11_either2 48 = .ok (.iload_n 1, 1)))) (
   sndN)))))))))))))))))))))))))⟩
theorem kX11_either2_1 : CallAt mX11_either2 1 0 mX11_both2 0 := ⟨by decide +kernel, ⟨_, (by decide +kernel : decode cX11_either2 1 = .ok (.invokevirtual 289, 3)), w_1350, w_1352, w_92⟩⟩
theorem kX11_either2_16 : CallAt mX11_either2 16 0 mX11_isWord 8 := ⟨by decide +kernel, ⟨_, (by decide +kernel : decode cX11_either2 16 = .ok (.invokevirtual 186, 3)), w_1200, w_1202, w_55⟩⟩
theorem kX11_either2_23 : CallAt mX11_either2 23 0 mX11_nextToken 0 := ⟨by decide +kernel, ⟨_, (by decide +kernel : decode cX11_either2 23 = .ok (.invokevirtual 183, 3)), w_1188, w_1190, w_53⟩⟩
theorem kX11_either2_27 : CallAt mX11_either2 27 0 mX11_both2 0 := ⟨by decide +kernel, ⟨_, (by decide +kernel : decode cX11_either2 27 = .ok (.invokevirtual 289, 3)), w_1350, w_1352, w_92⟩⟩

set_option maxRecDepth 20000 in
theorem GX11_atom1 : Good mX11_atom1 := ⟨by decide +kernel, List.mem_of_getElem? (i := 1345) (by decide +kernel), inX11, ⟨by decide +kernel, by decide +kernel⟩, by decide, show ∀ q ∈ tX11_atom1, Snd mX11_atom1 q.1 q.2 from
  sndC (sd_iconst (hd := (by decide +kernel : decode cX11_atom1 0 = .ok (.iconst 0, 1))) (hv := by decide)) (
   sndC (sd_istore_n (hi := rfl) (hd := (by decide +kernel : decode cX11_atom1 1 = .ok (.istore_n 1, 1)))) (
   sndC (sd_aload_n (hi := rfl) (hd := (by decide +kernel : decode cX11_atom1 2 = .ok (.aload_n 0, 1)))) (
   sndC (sd_bipush (hd := (by decide +kernel : decode cX11_atom1 3 = .ok (.bipush 45, 2))) (hv := by decide)) (
   sndC (sd_if_eq (ht := by decide) (hd := (by decide +kernel : decode cX11_atom1 8 = .ok (.ifCond .eq 29, 3)))) (
   sndC (sd_aload_n (hi := rfl) (hd := (by decide +kernel : decode cX11_atom1 11 = .ok (.aload_n 0, 1)))) (
   sndC (sd_if_eq (ht := by decide) (hd := (by decide +kernel : decode cX11_atom1 15 = .ok (.ifCond .eq 146, 3)))) (
   sndC (sd_aload_n (hi := rfl) (hd := (by decide +kernel : decode cX11_atom1 18 = .ok (.aload_n 0, 1)))) (
   sndC (sd_ineg (hd := (by decide +kernel : decode cX11_atom1 22 = .ok (.ineg, 1)))) (
   sndC (sd_istore_n (hi := rfl) (hd := (by decide +kernel : decode cX11_atom1 23 = .ok (.istore_n 1, 1)))) (
   sndC (sd_aload_n (hi := rfl) (hd := (by decide +kernel : decode cX11_atom1 24 = .ok (.aload_n 0, 1)))) (
   sndC (sd_dup (hd := (by decide +kernel : decode cX11_atom1 25 = .ok (.dup, 1)))) (
   sndC (sd_get (C := RX11) (T := TX11) (N := 41) (hc := rfl) (hin0 := iX11) (hk := by decide) (hlink := w_1038) (hd := (by decide +kernel : decode cX11_atom1 26 = .ok (.getfield 177, 3)))) (
   sndC (sd_iconst (hd := (by decide +kernel : decode cX11_atom1 29 = .ok (.iconst 1, 1))) (hv := by decide)) (
   sndC (sd_isub (hd := (by decide +kernel : decode cX11_atom1 30 = .ok (.isub, 1)))) (
   sndC (sd_putI (C := RX11) (T := TX11) (N := 41) (hc := rfl) (hin0 := iX11) (hk := by decide) (hlink := w_1038) (ty0 := tyX11) (hty := tyX11_ok) (hnm := nmX11) (hfin := rfl) (hi := rfl) (hd := (by decide +kernel : decode cX11_atom1 31 = .ok (.putfield 177, 3)))) (
   sndC (sd_goto (ht := by decide) (hd := (by decide +kernel : decode cX11_atom1 34 = .ok (.goto 127, 3)))) (
   sndC (sd_aload_n (hi := rfl) (hd := (by decide +kernel : decode cX11_atom1 37 = .ok (.aload_n 0, 1)))) (
   sndC (sd_bipush (hd := (by decide +kernel : decode cX11_atom1 38 = .ok (.bipush 40, 2))) (hv := by decide)) (
   sndC (sd_if_eq (ht := by decide) (hd := (by decide +kernel : decode cX11_atom1 43 = .ok (.ifCond .eq 52, 3)))) (
   sndC (sd_aload_n (hi := rfl) (hd := (by decide +kernel : decode cX11_atom1 46 = .ok (.aload_n 0, 1)))) (
   sndC (sd_if_eq (ht := by decide) (hd := (by decide +kernel : decode cX11_atom1 50 = .ok (.ifCond .eq 111, 3)))) (
   sndC (sd_aload_n (hi := rfl) (hd := (by decide +kernel : decode cX11_atom1 53 = .ok (.aload_n 0, 1)))) (
   sndC (sd_istore_n (hi := rfl) (hd := (by decide +kernel : decode cX11_atom1 57 = .ok (.istore_n 1, 1)))) (
   sndC (sd_aload_n (hi := rfl) (hd := (by decide +kernel : decode cX11_atom1 58 = .ok (.aload_n 0, 1)))) (
   sndC (sd_bipush (hd := (by decide +kernel : decode cX11_atom1 59 = .ok (.bipush 41, 2))) (hv := by decide)) (
   sndC (sd_if_ne (ht := by decide) (hd := (by decide +kernel : decode cX11_atom1 64 = .ok (.ifCond .ne 7, 3)))) (
   sndC (sd_aload_n (hi := rfl) (hd := (by decide +kernel : decode cX11_atom1 67 = .ok (.aload_n 0, 1)))) (
   sndC (sd_aload_n (hi := rfl) (hd := (by decide +kernel : decode cX11_atom1 71 = .ok (.aload_n 0, 1)))) (
   sndC (sd_dup (hd := (by decide +kernel : decode cX11_atom1 72 = .ok (.dup, 1)))) (
   sndC (sd_get (C := RX11) (T := TX11) (N := 41) (hc := rfl) (hin0 := iX11) (hk := by decide) (hlink := w_1038) (hd := (by decide +kernel : decode cX11_atom1 73 = .ok (.getfield 177, 3)))) (
   sndC (sd_iconst (hd := (by decide +kernel : decode cX11_atom1 76 = .ok (.iconst 1, 1))) (hv := by decide)) (
   sndC (sd_isub (hd := (by decide +kernel : decode cX11_atom1 77 = .ok (.isub, 1)))) (
   sndC (sd_putI (C := RX11) (T := TX11) (N := 41) (hc := rfl) (hin0 := iX11) (hk := by decide) (hlink := w_1038) (ty0 := tyX11) (hty := tyX11_ok) (hnm := nmX11) (hfin := rfl) (hi := rfl) (hd := (by decide +kernel : decode cX11_atom1 78 = .ok (.putfield 177, 3)))) (
   sndC (sd_aload_n (hi := rfl) (hd := (by decide +kernel : decode cX11_atom1 81 = .ok (.aload_n 0, 1)))) (
   sndC (sd_get (C := RX11) (T := TX11) (N := 41) (hc := rfl) (hin0 := iX11) (hk := by decide) (hlink := w_1039) (hd := (by decide +kernel : decode cX11_atom1 82 = .ok (.getfield 167, 3)))) (
   sndC (sd_if_ne (ht := by decide) (hd := (by decide +kernel : decode cX11_atom1 85 = .ok (.ifCond .ne 76, 3)))) (
   sndC (sd_aload_n (hi := rfl) (hd := (by decide +kernel : decode cX11_atom1 88 = .ok (.aload_n 0, 1)))) (
   sndC (sd_goto (ht := by decide) (hd := (by decide +kernel : decode cX11_atom1 92 = .ok (.goto 69, 3)))) (
   sndC (sd_aload_n (hi := rfl) (hd := (by decide +kernel : decode cX11_atom1 95 = .ok (.aload_n 0, 1)))) (
   sndC (sd_get (C := RX11) (T := TX11) (N := 41) (hc := rfl) (hin0 := iX11) (hk := by decide) (hlink := w_1039) (hd := (by decide +kernel : decode cX11_atom1 96 = .ok (.getfield 167, 3)))) (
   sndC (sd_if_ne (ht := by decide) (hd := (by decide +kernel : decode cX11_atom1 99 = .ok (.ifCond .ne 24, 3)))) (
   sndC (sd_aload_n (hi := rfl) (hd := (by decide +kernel : decode cX11_atom1 102 = .ok (.aload_n 0, 1)))) (
   sndC (sd_get (C := RX11) (T := TX11) (N := 41) (hc := rfl) (hin0 := iX11) (hk := by decide) (hlink := w_1035) (hd := (by decide +kernel : decode cX11_atom1 103 = .ok (.getfield 152, 3)))) (
   sndC (sd_iconst (hd := (by decide +kernel : decode cX11_atom1 106 = .ok (.iconst 2, 1))) (hv := by decide)) (
   sndC (sd_cmp_ne (ht := by decide) (hd := (by decide +kernel : decode cX11_atom1 107 = .ok (.if_icmp .ne 16, 3)))) (
   sndC (sd_aload_n (hi := rfl) (hd := (by decide +kernel : decode cX11_atom1 110 = .ok (.aload_n 0, 1)))) (
   sndC (sd_get (C := RX11) (T := TX11) (N := 41) (hc := rfl) (hin0 := iX11) (hk := by decide) (hlink := w_1037) (hd := (by decide +kernel : decode cX11_atom1 111 = .ok (.getfield 163, 3)))) (
   sndC (sd_l2i (hd := (by decide +kernel : decode cX11_atom1 114 = .ok (.l2i, 1)))) (
   sndC (sd_istore_n (hi := rfl) (hd := (by decide +kernel : decode cX11_atom1 115 = .ok (.istore_n 1, 1)))) (
   sndC (sd_aload_n (hi := rfl) (hd := (by decide +kernel : decode cX11_atom1 116 = .ok (.aload_n 0, 1)))) (
   sndC (sd_goto (ht := by decide) (hd := (by decide +kernel : decode cX11_atom1 120 = .ok (.goto 41, 3)))) (
   sndC (sd_aload_n (hi := rfl) (hd := (by decide +kernel : decode cX11_atom1 123 = .ok (.aload_n 0, 1)))) (
   sndC (sd_get (C := RX11) (T := TX11) (N := 41) (hc := rfl) (hin0 := iX11) (hk := by decide) (hlink := w_1039) (hd := (by decide +kernel : decode cX11_atom1 124 = .ok (.getfield 167, 3)))) (
   sndC (sd_if_ne (ht := by decide) (hd := (by decide +kernel : decode cX11_atom1 127 = .ok (.ifCond .ne 30, 3)))) (
   sndC (sd_aload_n (hi := rfl) (hd := (by decide +kernel : decode cX11_atom1 130 = .ok (.aload_n 0, 1)))) (
   sndC (sd_get (C := RX11) (T := TX11) (N := 41) (hc := rfl) (hin0 := iX11) (hk := by decide) (hlink := w_1035) (hd := (by decide +kernel : decode cX11_atom1 131 = .ok (.getfield 152, 3)))) (
   sndC (sd_iconst (hd := (by decide +kernel : decode cX11_atom1 134 = .ok (.iconst 1, 1))) (hv := by decide)) (
   sndC (sd_cmp_ne (ht := by decide) (hd := (by decide +kernel : decode cX11_atom1 135 = .ok (.if_icmp .ne 22, 3)))) (
   sndC (sd_aload_n (hi := rfl) (hd := (by decide +kernel : decode cX11_atom1 138 = .ok (.aload_n 0, 1)))) (
   sndC (sd_istore_n (hi := rfl) (hd := (by decide +kernel : decode cX11_atom1 142 = .ok (.istore_n 1, 1)))) (
   sndC (sd_aload_n (hi := rfl) (hd := (by decide +kernel : decode cX11_atom1 143 = .ok (.aload_n 0, 1)))) (
   sndC (sd_get (C := RX11) (T := TX11) (N := 41) (hc := rfl) (hin0 := iX11) (hk := by decide) (hlink := w_1039) (hd := (by decide +kernel : decode cX11_atom1 144 = .ok (.getfield 167, 3)))) (
   sndC (sd_if_ne (ht := by decide) (hd := (by decide +kernel : decode cX11_atom1 147 = .ok (.ifCond .ne 14, 3)))) (
   sndC (sd_aload_n (hi := rfl) (hd := (by decide +kernel : decode cX11_atom1 150 = .ok (.aload_n 0, 1)))) (
   sndC (sd_goto (ht := by decide) (hd := (by decide +kernel : decode cX11_atom1 154 = .ok (.goto 7, 3)))) (
   sndC (sd_aload_n (hi := rfl) (hd := (by decide +kernel : decode cX11_atom1 157 = .ok (.aload_n 0, 1)))) (
   sndC (sd_iload_n (hi := rfl) (hd := (by decide +kernel : decode cX11_atom1 161 = .ok (.iload_n 1, 1)))) (
   sndN))))))))))))))))))))))))))))))))))))))))))))))))))))))))))))))))))))⟩
theorem kX11_atom1_5 : CallAt mX11_atom1 5 0 mX11_isSign 1 := ⟨by decide +kernel, ⟨_, (by decide +kernel : decode cX11_atom1 5 = .ok (.invokevirtual 208, 3)), w_1264, w_1266, w_71⟩⟩
theorem kX11_atom1_12 : CallAt mX11_atom1 12 0 mX11_opens 0 := ⟨by decide +kernel, ⟨_, (by decide +kernel : decode cX11_atom1 12 = .ok (.invokevirtual 211, 3)), w_1228, w_1230, w_62⟩⟩
theorem kX11_atom1_19 : CallAt mX11_atom1 19 0 mX11_atom2 0 := ⟨by decide +kernel, ⟨_, (by decide +kernel : decode cX11_atom1 19 = .ok (.invokevirtual 277, 3)), w_1322, w_1324, w_85⟩⟩
theorem kX11_atom1_40 : CallAt mX11_atom1 40 0 mX11_isSign 1 := ⟨by decide +kernel, ⟨_, (by decide +kernel : decode cX11_atom1 40 = .ok (.invokevirtual 208, 3)), w_1264, w_1266, w_71⟩⟩
theorem kX11_atom1_47 : CallAt mX11_atom1 47 0 mX11_opens 0 := ⟨by decide +kernel, ⟨_, (by decide +kernel : decode cX11_atom1 47 = .ok (.invokevirtual 211, 3)), w_1228, w_1230, w_62⟩⟩
theorem kX11_atom1_54 : CallAt mX11_atom1 54 0 mX11_either2 0 := ⟨by decide +kernel, ⟨_, (by decide +kernel : decode cX11_atom1 54 = .ok (.invokevirtual 292, 3)), w_1346, w_1348, w_91⟩⟩
theorem kX11_atom1_61 : CallAt mX11_atom1 61 0 mX11_isSign 1 := ⟨by decide +kernel, ⟨_, (by decide +kernel : decode cX11_atom1 61 = .ok (.invokevirtual 208, 3)), w_1264, w_1266, w_71⟩⟩
theorem kX11_atom1_68 : CallAt mX11_atom1 68 0 mX11_fail 0 := ⟨by decide +kernel, ⟨_, (by decide +kernel : decode cX11_atom1 68 = .ok (.invokevirtual 180, 3)), w_1212, w_1214, w_58⟩⟩
theorem kX11_atom1_89 : CallAt mX11_atom1 89 0 mX11_nextToken 0 := ⟨by decide +kernel, ⟨_, (by decide +kernel : decode cX11_atom1 89 = .ok (.invokevirtual 183, 3)), w_1188, w_1190, w_53⟩⟩
theorem kX11_atom1_117 : CallAt mX11_atom1 117 0 mX11_nextToken 0 := ⟨by decide +kernel, ⟨_, (by decide +kernel : decode cX11_atom1 117 = .ok (.invokevirtual 183, 3)), w_1188, w_1190, w_53⟩⟩
theorem kX11_atom1_139 : CallAt mX11_atom1 139 0 mX11_name 0 := ⟨by decide +kernel, ⟨_, (by decide +kernel : decode cX11_atom1 139 = .ok (.invokevirtual 215, 3)), w_1268, w_1270, w_72⟩⟩
theorem kX11_atom1_151 : CallAt mX11_atom1 151 0 mX11_nextToken 0 := ⟨by decide +kernel, ⟨_, (by decide +kernel : decode cX11_atom1 151 = .ok (.invokevirtual 183, 3)), w_1188, w_1190, w_53⟩⟩
theorem kX11_atom1_158 : CallAt mX11_atom1 158 0 mX11_fail 0 := ⟨by decide +kernel, ⟨_, (by decide +kernel : decode cX11_atom1 158 = .ok (.invokevirtual 180, 3)), w_1212, w_1214, w_58⟩⟩

set_option maxRecDepth 20000 in
theorem GX11_term1 : Good mX11_term1 := ⟨by decide +kernel, List.mem_of_getElem? (i := 1341) (by decide +kernel), inX11, ⟨by decide +kernel, by decide +kernel⟩, by decide, show ∀ q ∈ tX11_term1, Snd mX11_term1 q.1 q.2 from
  sndC (sd_aload_n (hi := rfl) (hd := (by decide +kernel : decode cX11_term1 0 = .ok (.aload_n 0, 1)))) (
   sndC (sd_istore_n (hi := rfl) (hd := (by decide +kernel : decode cX11_term1 4 = .ok (.istore_n 1, 1)))) (
   sndC (sd_aload_n (hi := rfl) (hd := (by decide +kernel : decode cX11_term1 5 = .ok (.aload_n 0, 1)))) (
   sndC (sd_bipush (hd := (by decide +kernel : decode cX11_term1 6 = .ok (.bipush 42, 2))) (hv := by decide)) (
   sndC (sd_if_eq (ht := by decide) (hd := (by decide +kernel : decode cX11_term1 11 = .ok (.ifCond .eq 17, 3)))) (
   sndC (sd_aload_n (hi := rfl) (hd := (by decide +kernel : decode cX11_term1 14 = .ok (.aload_n 0, 1)))) (
   sndC (sd_iload_n (hi := rfl) (hd := (by decide +kernel : decode cX11_term1 18 = .ok (.iload_n 1, 1)))) (
   sndC (sd_aload_n (hi := rfl) (hd := (by decide +kernel : decode cX11_term1 19 = .ok (.aload_n 0, 1)))) (
   sndC (sd_imul (hd := (by decide +kernel : decode cX11_term1 23 = .ok (.imul, 1)))) (
   sndC (sd_istore_n (hi := rfl) (hd := (by decide +kernel : decode cX11_term1 24 = .ok (.istore_n 1, 1)))) (
   sndC (sd_goto (ht := by decide) (hd := (by decide +kernel : decode cX11_term1 25 = .ok (.goto (-20), 3)))) (
   sndC (sd_iload_n (hi := rfl) (hd := (by decide +kernel : decode cX11_term1 28 = .ok (.iload_n 1, 1)))) (
   sndN))))))))))))⟩
theorem kX11_term1_1 : CallAt mX11_term1 1 0 mX11_atom1 0 := ⟨by decide +kernel, ⟨_, (by decide +kernel : decode cX11_term1 1 = .ok (.invokevirtual 295, 3)), w_1342, w_1344, w_90⟩⟩
theorem kX11_term1_8 : CallAt mX11_term1 8 0 mX11_isSign 1 := ⟨by decide +kernel, ⟨_, (by decide +kernel : decode cX11_term1 8 = .ok (.invokevirtual 208, 3)), w_1264, w_1266, w_71⟩⟩
theorem kX11_term1_15 : CallAt mX11_term1 15 0 mX11_nextToken 0 := ⟨by decide +kernel, ⟨_, (by decide +kernel : decode cX11_term1 15 = .ok (.invokevirtual 183, 3)), w_1188, w_1190, w_53⟩⟩
theorem kX11_term1_20 : CallAt mX11_term1 20 0 mX11_atom1 0 := ⟨by decide +kernel, ⟨_, (by decide +kernel : decode cX11_term1 20 = .ok (.invokevirtual 295, 3)), w_1342, w_1344, w_90⟩⟩

set_option maxRecDepth 20000 in
theorem GX11_added1 : Good mX11_added1 := ⟨by decide +kernel, List.mem_of_getElem? (i := 1337) (by decide +kernel), inX11, ⟨by decide +kernel, by decide +kernel⟩, by decide, show ∀ q ∈ tX11_added1, Snd mX11_added1 q.1 q.2 from
  sndC (sd_aload_n (hi := rfl) (hd := (by decide +kernel : decode cX11_added1 0 = .ok (.aload_n 0, 1)))) (
   sndC (sd_istore_n (hi := rfl) (hd := (by decide +kernel : decode cX11_added1 4 = .ok (.istore_n 1, 1)))) (
   sndC (sd_aload_n (hi := rfl) (hd := (by decide +kernel : decode cX11_added1 5 = .ok (.aload_n 0, 1)))) (
   sndC (sd_bipush (hd := (by decide +kernel : decode cX11_added1 6 = .ok (.bipush 43, 2))) (hv := by decide)) (
   sndC (sd_if_ne (ht := by decide) (hd := (by decide +kernel : decode cX11_added1 11 = .ok (.ifCond .ne 12, 3)))) (
   sndC (sd_aload_n (hi := rfl) (hd := (by decide +kernel : decode cX11_added1 14 = .ok (.aload_n 0, 1)))) (
   sndC (sd_bipush (hd := (by decide +kernel : decode cX11_added1 15 = .ok (.bipush 45, 2))) (hv := by decide)) (
   sndC (sd_if_eq (ht := by decide) (hd := (by decide +kernel : decode cX11_added1 20 = .ok (.ifCond .eq 46, 3)))) (
   sndC (sd_aload_n (hi := rfl) (hd := (by decide +kernel : decode cX11_added1 23 = .ok (.aload_n 0, 1)))) (
   sndC (sd_get (C := RX11) (T := TX11) (N := 41) (hc := rfl) (hin0 := iX11) (hk := by decide) (hlink := w_1037) (hd := (by decide +kernel : decode cX11_added1 24 = .ok (.getfield 163, 3)))) (
   sndC (sd_ldc2 (hw := w_1272) (hd := (by decide +kernel : decode cX11_added1 27 = .ok (.ldc2_w 225, 3)))) (
   sndC (sd_lcmp (hd := (by decide +kernel : decode cX11_added1 30 = .ok (.lcmp, 1)))) (
   sndC (sd_if_ne (ht := by decide) (hd := (by decide +kernel : decode cX11_added1 31 = .ok (.ifCond .ne 7, 3)))) (
   sndC (sd_iconst (hd := (by decide +kernel : decode cX11_added1 34 = .ok (.iconst 1, 1))) (hv := by decide)) (
   sndC (sd_goto (ht := by decide) (hd := (by decide +kernel : decode cX11_added1 35 = .ok (.goto 4, 3)))) (
   sndC (sd_iconst (hd := (by decide +kernel : decode cX11_added1 38 = .ok (.iconst 0, 1))) (hv := by decide)) (
   sndC (sd_istore_n (hi := rfl) (hd := (by decide +kernel : decode cX11_added1 39 = .ok (.istore_n 2, 1)))) (
   sndC (sd_aload_n (hi := rfl) (hd := (by decide +kernel : decode cX11_added1 40 = .ok (.aload_n 0, 1)))) (
   sndC (sd_aload_n (hi := rfl) (hd := (by decide +kernel : decode cX11_added1 44 = .ok (.aload_n 0, 1)))) (
   sndC (sd_istore_n (hi := rfl) (hd := (by decide +kernel : decode cX11_added1 48 = .ok (.istore_n 3, 1)))) (
   sndC (sd_iload_n (hi := rfl) (hd := (by decide +kernel : decode cX11_added1 49 = .ok (.iload_n 2, 1)))) (
   sndC (sd_if_eq (ht := by decide) (hd := (by decide +kernel : decode cX11_added1 50 = .ok (.ifCond .eq 9, 3)))) (
   sndC (sd_iload_n (hi := rfl) (hd := (by decide +kernel : decode cX11_added1 53 = .ok (.iload_n 1, 1)))) (
   sndC (sd_iload_n (hi := rfl) (hd := (by decide +kernel : decode cX11_added1 54 = .ok (.iload_n 3, 1)))) (
   sndC (sd_iadd (hd := (by decide +kernel : decode cX11_added1 55 = .ok (.iadd, 1)))) (
   sndC (sd_goto (ht := by decide) (hd := (by decide +kernel : decode cX11_added1 56 = .ok (.goto 6, 3)))) (
   sndC (sd_iload_n (hi := rfl) (hd := (by decide +kernel : decode cX11_added1 59 = .ok (.iload_n 1, 1)))) (
   sndC (sd_iload_n (hi := rfl) (hd := (by decide +kernel : decode cX11_added1 60 = .ok (.iload_n 3, 1)))) (
   sndC (sd_isub (hd := (by decide +kernel : decode cX11_added1 61 = .ok (.isub, 1)))) (
   sndC (sd_istore_n (hi := rfl) (hd := (by decide +kernel : decode cX11_added1 62 = .ok (.istore_n 1, 1)))) (
   sndC (sd_goto (ht := by decide) (hd := (by decide +kernel : decode cX11_added1 63 = .ok (.goto (-58), 3)))) (
   sndC (sd_iload_n (hi := rfl) (hd := (by decide +kernel : decode cX11_added1 66 = .ok (.iload_n 1, 1)))) (
   sndN))))))))))))))))))))))))))))))))⟩
theorem kX11_added1_1 : CallAt mX11_added1 1 0 mX11_term1 0 := ⟨by decide +kernel, ⟨_, (by decide +kernel : decode cX11_added1 1 = .ok (.invokevirtual 298, 3)), w_1338, w_1340, w_89⟩⟩
theorem kX11_added1_8 : CallAt mX11_added1 8 0 mX11_isSign 1 := ⟨by decide +kernel, ⟨_, (by decide +kernel : decode cX11_added1 8 = .ok (.invokevirtual 208, 3)), w_1264, w_1266, w_71⟩⟩
theorem kX11_added1_17 : CallAt mX11_added1 17 0 mX11_isSign 1 := ⟨by decide +kernel, ⟨_, (by decide +kernel : decode cX11_added1 17 = .ok (.invokevirtual 208, 3)), w_1264, w_1266, w_71⟩⟩
theorem kX11_added1_41 : CallAt mX11_added1 41 0 mX11_nextToken 0 := ⟨by decide +kernel, ⟨_, (by decide +kernel : decode cX11_added1 41 = .ok (.invokevirtual 183, 3)), w_1188, w_1190, w_53⟩⟩
theorem kX11_added1_45 : CallAt mX11_added1 45 0 mX11_term1 0 := ⟨by decide +kernel, ⟨_, (by decide +kernel : decode cX11_added1 45 = .ok (.invokevirtual 298, 3)), w_1338, w_1340, w_89⟩⟩

set_option maxRecDepth 20000 in
theorem GX11_not1 : Good mX11_not1 := ⟨by decide +kernel, List.mem_of_getElem? (i := 1235) (by decide +kernel), inX11, ⟨by decide +kernel, by decide +kernel⟩, by decide, show ∀ q ∈ tX11_not1, Snd mX11_not1 q.1 q.2 from
  sndC (sd_aload_n (hi := rfl) (hd := (by decide +kernel : decode cX11_not1 0 = .ok (.aload_n 0, 1)))) (
   sndC (sd_bipush (hd := (by decide +kernel : decode cX11_not1 1 = .ok (.bipush 110, 2))) (hv := by decide)) (
   sndC (sd_bipush (hd := (by decide +kernel : decode cX11_not1 3 = .ok (.bipush 111, 2))) (hv := by decide)) (
   sndC (sd_bipush (hd := (by decide +kernel : decode cX11_not1 5 = .ok (.bipush 116, 2))) (hv := by decide)) (
   sndC (sd_iconst (hd := (by decide +kernel : decode cX11_not1 7 = .ok (.iconst 0, 1))) (hv := by decide)) (
   sndC (sd_iconst (hd := (by decide +kernel : decode cX11_not1 8 = .ok (.iconst 0, 1))) (hv := by decide)) (
   sndC (sd_iconst (hd := (by decide +kernel : decode cX11_not1 9 = .ok (.iconst 0, 1))) (hv := by decide)) (
   sndC (sd_iconst (hd := (by decide +kernel : decode cX11_not1 10 = .ok (.iconst 0, 1))) (hv := by decide)) (
   sndC (sd_iconst (hd := (by decide +kernel : decode cX11_not1 11 = .ok (.iconst 0, 1))) (hv := by decide)) (
   sndC (sd_if_eq (ht := by decide) (hd := (by decide +kernel : decode cX11_not1 15 = .ok (.ifCond .eq 37, 3)))) (
   sndC (sd_aload_n (hi := rfl) (hd := (by decide +kernel : decode cX11_not1 18 = .ok (.aload_n 0, 1)))) (
   sndC (sd_if_ne (ht := by decide) (hd := (by decide +kernel : decode cX11_not1 22 = .ok (.ifCond .ne 5, 3)))) (
   sndC (sd_iconst (hd := (by decide +kernel : decode cX11_not1 25 = .ok (.iconst 0, 1))) (hv := by decide)) (
   sndC (sd_aload_n (hi := rfl) (hd := (by decide +kernel : decode cX11_not1 27 = .ok (.aload_n 0, 1)))) (
   sndC (sd_istore_n (hi := rfl) (hd := (by decide +kernel : decode cX11_not1 31 = .ok (.istore_n 1, 1)))) (
   sndC (sd_aload_n (hi := rfl) (hd := (by decide +kernel : decode cX11_not1 32 = .ok (.aload_n 0, 1)))) (
   sndC (sd_dup (hd := (by decide +kernel : decode cX11_not1 33 = .ok (.dup, 1)))) (
   sndC (sd_get (C := RX11) (T := TX11) (N := 41) (hc := rfl) (hin0 := iX11) (hk := by decide) (hlink := w_1038) (hd := (by decide +kernel : decode cX11_not1 34 = .ok (.getfield 177, 3)))) (
   sndC (sd_iconst (hd := (by decide +kernel : decode cX11_not1 37 = .ok (.iconst 1, 1))) (hv := by decide)) (
   sndC (sd_isub (hd := (by decide +kernel : decode cX11_not1 38 = .ok (.isub, 1)))) (
   sndC (sd_putI (C := RX11) (T := TX11) (N := 41) (hc := rfl) (hin0 := iX11) (hk := by decide) (hlink := w_1038) (ty0 := tyX11) (hty := tyX11_ok) (hnm := nmX11) (hfin := rfl) (hi := rfl) (hd := (by decide +kernel : decode cX11_not1 39 = .ok (.putfield 177, 3)))) (
   sndC (sd_iload_n (hi := rfl) (hd := (by decide +kernel : decode cX11_not1 42 = .ok (.iload_n 1, 1)))) (
   sndC (sd_if_ne (ht := by decide) (hd := (by decide +kernel : decode cX11_not1 43 = .ok (.ifCond .ne 7, 3)))) (
   sndC (sd_iconst (hd := (by decide +kernel : decode cX11_not1 46 = .ok (.iconst 1, 1))) (hv := by decide)) (
   sndC (sd_goto (ht := by decide) (hd := (by decide +kernel : decode cX11_not1 47 = .ok (.goto 4, 3)))) (
   sndC (sd_iconst (hd := (by decide +kernel : decode cX11_not1 50 = .ok (.iconst 0, 1))) (hv := by decide)) (
   sndC (sd_aload_n (hi := rfl) (hd := (by decide +kernel : decode cX11_not1 52 = .ok (.aload_n 0, 1)))) (
   sndC (sd_istore_n (hi := rfl) (hd := (by decide +kernel : decode cX11_not1 56 = .ok (.istore_n 1, 1)))) (
   sndC (sd_aload_n (hi := rfl) (hd := (by decide +kernel : decode cX11_not1 57 = .ok (.aload_n 0, 1)))) (
   sndC (sd_bipush (hd := (by decide +kernel : decode cX11_not1 58 = .ok (.bipush 60, 2))) (hv := by decide)) (
   sndC (sd_if_ne (ht := by decide) (hd := (by decide +kernel : decode cX11_not1 63 = .ok (.ifCond .ne 14, 3)))) (
   sndC (sd_aload_n (hi := rfl) (hd := (by decide +kernel : decode cX11_not1 66 = .ok (.aload_n 0, 1)))) (
   sndC (sd_bipush (hd := (by decide +kernel : decode cX11_not1 67 = .ok (.bipush 61, 2))) (hv := by decide)) (
   sndC (sd_if_ne (ht := by decide) (hd := (by decide +kernel : decode cX11_not1 72 = .ok (.ifCond .ne 5, 3)))) (
   sndC (sd_iload_n (hi := rfl) (hd := (by decide +kernel : decode cX11_not1 75 = .ok (.iload_n 1, 1)))) (
   sndC (sd_aload_n (hi := rfl) (hd := (by decide +kernel : decode cX11_not1 77 = .ok (.aload_n 0, 1)))) (
   sndC (sd_get (C := RX11) (T := TX11) (N := 41) (hc := rfl) (hin0 := iX11) (hk := by decide) (hlink := w_1037) (hd := (by decide +kernel : decode cX11_not1 78 = .ok (.getfield 163, 3)))) (
   sndC (sd_ldc2 (hw := w_1273) (hd := (by decide +kernel : decode cX11_not1 81 = .ok (.ldc2_w 230, 3)))) (
   sndC (sd_lcmp (hd := (by decide +kernel : decode cX11_not1 84 = .ok (.lcmp, 1)))) (
   sndC (sd_if_ne (ht := by decide) (hd := (by decide +kernel : decode cX11_not1 85 = .ok (.ifCond .ne 7, 3)))) (
   sndC (sd_iconst (hd := (by decide +kernel : decode cX11_not1 88 = .ok (.iconst 1, 1))) (hv := by decide)) (
   sndC (sd_goto (ht := by decide) (hd := (by decide +kernel : decode cX11_not1 89 = .ok (.goto 4, 3)))) (
   sndC (sd_iconst (hd := (by decide +kernel : decode cX11_not1 92 = .ok (.iconst 0, 1))) (hv := by decide)) (
   sndC (sd_istore_n (hi := rfl) (hd := (by decide +kernel : decode cX11_not1 93 = .ok (.istore_n 2, 1)))) (
   sndC (sd_aload_n (hi := rfl) (hd := (by decide +kernel : decode cX11_not1 94 = .ok (.aload_n 0, 1)))) (
   sndC (sd_aload_n (hi := rfl) (hd := (by decide +kernel : decode cX11_not1 98 = .ok (.aload_n 0, 1)))) (
   sndC (sd_istore_n (hi := rfl) (hd := (by decide +kernel : decode cX11_not1 102 = .ok (.istore_n 3, 1)))) (
   sndC (sd_iload_n (hi := rfl) (hd := (by decide +kernel : decode cX11_not1 103 = .ok (.iload_n 2, 1)))) (
   sndC (sd_if_eq (ht := by decide) (hd := (by decide +kernel : decode cX11_not1 104 = .ok (.ifCond .eq 11, 3)))) (
   sndC (sd_iload_n (hi := rfl) (hd := (by decide +kernel : decode cX11_not1 107 = .ok (.iload_n 1, 1)))) (
   sndC (sd_iload_n (hi := rfl) (hd := (by decide +kernel : decode cX11_not1 108 = .ok (.iload_n 3, 1)))) (
   sndC (sd_cmp_ge (ht := by decide) (hd := (by decide +kernel : decode cX11_not1 109 = .ok (.if_icmp .ge 15, 3)))) (
   sndC (sd_goto (ht := by decide) (hd := (by decide +kernel : decode cX11_not1 112 = .ok (.goto 8, 3)))) (
   sndC (sd_iload_n (hi := rfl) (hd := (by decide +kernel : decode cX11_not1 115 = .ok (.iload_n 1, 1)))) (
   sndC (sd_iload_n (hi := rfl) (hd := (by decide +kernel : decode cX11_not1 116 = .ok (.iload_n 3, 1)))) (
   sndC (sd_cmp_ne (ht := by decide) (hd := (by decide +kernel : decode cX11_not1 117 = .ok (.if_icmp .ne 7, 3)))) (
   sndC (sd_iconst (hd := (by decide +kernel : decode cX11_not1 120 = .ok (.iconst 1, 1))) (hv := by decide)) (
   sndC (sd_goto (ht := by decide) (hd := (by decide +kernel : decode cX11_not1 121 = .ok (.goto 4, 3)))) (
   sndC (sd_iconst (hd := (by decide +kernel : decode cX11_not1 124 = .ok (.iconst 0, 1))) (hv := by decide)) (
   sndN)))))))))))))))))))))))))))))))))))))))))))))))))))))))))))⟩
theorem kX11_not1_12 : CallAt mX11_not1 12 0 mX11_isWord 8 := ⟨by decide +kernel, ⟨_, (by decide +kernel : decode cX11_not1 12 = .ok (.invokevirtual 186, 3)), w_1200, w_1202, w_55⟩⟩
theorem kX11_not1_19 : CallAt mX11_not1 19 0 mX11_opens 0 := ⟨by decide +kernel, ⟨_, (by decide +kernel : decode cX11_not1 19 = .ok (.invokevirtual 211, 3)), w_1228, w_1230, w_62⟩⟩
theorem kX11_not1_28 : CallAt mX11_not1 28 0 mX11_not2 0 := ⟨by decide +kernel, ⟨_, (by decide +kernel : decode cX11_not1 28 = .ok (.invokevirtual 286, 3)), w_1236, w_1238, w_64⟩⟩
theorem kX11_not1_53 : CallAt mX11_not1 53 0 mX11_added1 0 := ⟨by decide +kernel, ⟨_, (by decide +kernel : decode cX11_not1 53 = .ok (.invokevirtual 301, 3)), w_1334, w_1336, w_88⟩⟩
theorem kX11_not1_60 : CallAt mX11_not1 60 0 mX11_isSign 1 := ⟨by decide +kernel, ⟨_, (by decide +kernel : decode cX11_not1 60 = .ok (.invokevirtual 208, 3)), w_1264, w_1266, w_71⟩⟩
theorem kX11_not1_69 : CallAt mX11_not1 69 0 mX11_isSign 1 := ⟨by decide +kernel, ⟨_, (by decide +kernel : decode cX11_not1 69 = .ok (.invokevirtual 208, 3)), w_1264, w_1266, w_71⟩⟩
theorem kX11_not1_95 : CallAt mX11_not1 95 0 mX11_nextToken 0 := ⟨by decide +kernel, ⟨_, (by decide +kernel : decode cX11_not1 95 = .ok (.invokevirtual 183, 3)), w_1188, w_1190, w_53⟩⟩
theorem kX11_not1_99 : CallAt mX11_not1 99 0 mX11_added1 0 := ⟨by decide +kernel, ⟨_, (by decide +kernel : decode cX11_not1 99 = .ok (.invokevirtual 301, 3)), w_1334, w_1336, w_88⟩⟩

set_option maxRecDepth 20000 in
theorem GX11_both1 : Good mX11_both1 := ⟨by decide +kernel, List.mem_of_getElem? (i := 1373) (by decide +kernel), inX11, ⟨by decide +kernel, by decide +kernel⟩, by decide, show ∀ q ∈ tX11_both1, Snd mX11_both1 q.1 q.2 from
  sndC (sd_aload_n (hi := rfl) (hd := (by decide +kernel : decode cX11_both1 0 = .ok (.aload_n 0, 1)))) (
   sndC (sd_istore_n (hi := rfl) (hd := (by decide +kernel : decode cX11_both1 4 = .ok (.istore_n 1, 1)))) (
   sndC (sd_aload_n (hi := rfl) (hd := (by decide +kernel : decode cX11_both1 5 = .ok (.aload_n 0, 1)))) (
   sndC (sd_bipush (hd := (by decide +kernel : decode cX11_both1 6 = .ok (.bipush 97, 2))) (hv := by decide)) (
   sndC (sd_bipush (hd := (by decide +kernel : decode cX11_both1 8 = .ok (.bipush 110, 2))) (hv := by decide)) (
   sndC (sd_bipush (hd := (by decide +kernel : decode cX11_both1 10 = .ok (.bipush 100, 2))) (hv := by decide)) (
   sndC (sd_iconst (hd := (by decide +kernel : decode cX11_both1 12 = .ok (.iconst 0, 1))) (hv := by decide)) (
   sndC (sd_iconst (hd := (by decide +kernel : decode cX11_both1 13 = .ok (.iconst 0, 1))) (hv := by decide)) (
   sndC (sd_iconst (hd := (by decide +kernel : decode cX11_both1 14 = .ok (.iconst 0, 1))) (hv := by decide)) (
   sndC (sd_iconst (hd := (by decide +kernel : decode cX11_both1 15 = .ok (.iconst 0, 1))) (hv := by decide)) (
   sndC (sd_iconst (hd := (by decide +kernel : decode cX11_both1 16 = .ok (.iconst 0, 1))) (hv := by decide)) (
   sndC (sd_if_eq (ht := by decide) (hd := (by decide +kernel : decode cX11_both1 20 = .ok (.ifCond .eq 29, 3)))) (
   sndC (sd_aload_n (hi := rfl) (hd := (by decide +kernel : decode cX11_both1 23 = .ok (.aload_n 0, 1)))) (
   sndC (sd_aload_n (hi := rfl) (hd := (by decide +kernel : decode cX11_both1 27 = .ok (.aload_n 0, 1)))) (
   sndC (sd_istore_n (hi := rfl) (hd := (by decide +kernel : decode cX11_both1 31 = .ok (.istore_n 2, 1)))) (
   sndC (sd_iload_n (hi := rfl) (hd := (by decide +kernel : decode cX11_both1 32 = .ok (.iload_n 1, 1)))) (
   sndC (sd_if_eq (ht := by decide) (hd := (by decide +kernel : decode cX11_both1 33 = .ok (.ifCond .eq 11, 3)))) (
   sndC (sd_iload_n (hi := rfl) (hd := (by decide +kernel : decode cX11_both1 36 = .ok (.iload_n 2, 1)))) (
   sndC (sd_if_eq (ht := by decide) (hd := (by decide +kernel : decode cX11_both1 37 = .ok (.ifCond .eq 7, 3)))) (
   sndC (sd_iconst (hd := (by decide +kernel : decode cX11_both1 40 = .ok (.iconst 1, 1))) (hv := by decide)) (
   sndC (sd_goto (ht := by decide) (hd := (by decide +kernel : decode cX11_both1 41 = .ok (.goto 4, 3)))) (
   sndC (sd_iconst (hd := (by decide +kernel : decode cX11_both1 44 = .ok (.iconst 0, 1))) (hv := by decide)) (
   sndC (sd_istore_n (hi := rfl) (hd := (by decide +kernel : decode cX11_both1 45 = .ok (.istore_n 1, 1)))) (
   sndC (sd_goto (ht := by decide) (hd := (by decide +kernel : decode cX11_both1 46 = .ok (.goto (-41), 3)))) (
   sndC (sd_iload_n (hi := rfl) (hd := (by decide +kernel : decode cX11_both1 49 = .ok (.iload_n 1, 1)))) (
   sndN)))))))))))))))))))))))))⟩
theorem kX11_both1_1 : CallAt mX11_both1 1 0 mX11_not1 0 := ⟨by decide +kernel, ⟨_, (by decide +kernel : decode cX11_both1 1 = .ok (.invokevirtual 304, 3)), w_1232, w_1234, w_63⟩⟩
theorem kX11_both1_17 : CallAt mX11_both1 17 0 mX11_isWord 8 := ⟨by decide +kernel, ⟨_, (by decide +kernel : decode cX11_both1 17 = .ok (.invokevirtual 186, 3)), w_1200, w_1202, w_55⟩⟩
theorem kX11_both1_24 : CallAt mX11_both1 24 0 mX11_nextToken 0 := ⟨by decide +kernel, ⟨_, (by decide +kernel : decode cX11_both1 24 = .ok (.invokevirtual 183, 3)), w_1188, w_1190, w_53⟩⟩
theorem kX11_both1_28 : CallAt mX11_both1 28 0 mX11_not1 0 := ⟨by decide +kernel, ⟨_, (by decide +kernel : decode cX11_both1 28 = .ok (.invokevirtual 304, 3)), w_1232, w_1234, w_63⟩⟩

set_option maxRecDepth 20000 in
theorem GX11_either1 : Good mX11_either1 := ⟨by decide +kernel, List.mem_of_getElem? (i := 1369) (by decide +kernel), inX11, ⟨by decide +kernel, by decide +kernel⟩, by decide, show ∀ q ∈ tX11_either1, Snd mX11_either1 q.1 q.2 from
  sndC (sd_aload_n (hi := rfl) (hd := (by decide +kernel : decode cX11_either1 0 = .ok (.aload_n 0, 1)))) (
   sndC (sd_istore_n (hi := rfl) (hd := (by decide +kernel : decode cX11_either1 4 = .ok (.istore_n 1, 1)))) (
   sndC (sd_aload_n (hi := rfl) (hd := (by decide +kernel : decode cX11_either1 5 = .ok (.aload_n 0, 1)))) (
   sndC (sd_bipush (hd := (by decide +kernel : decode cX11_either1 6 = .ok (.bipush 111, 2))) (hv := by decide)) (
   sndC (sd_bipush (hd := (by decide +kernel : decode cX11_either1 8 = .ok (.bipush 114, 2))) (hv := by decide)) (
   sndC (sd_iconst (hd := (by decide +kernel : decode cX11_either1 10 = .ok (.iconst 0, 1))) (hv := by decide)) (
   sndC (sd_iconst (hd := (by decide +kernel : decode cX11_either1 11 = .ok (.iconst 0, 1))) (hv := by decide)) (
   sndC (sd_iconst (hd := (by decide +kernel : decode cX11_either1 12 = .ok (.iconst 0, 1))) (hv := by decide)) (
   sndC (sd_iconst (hd := (by decide +kernel : decode cX11_either1 13 = .ok (.iconst 0, 1))) (hv := by decide)) (
   sndC (sd_iconst (hd := (by decide +kernel : decode cX11_either1 14 = .ok (.iconst 0, 1))) (hv := by decide)) (
   sndC (sd_iconst (hd := (by decide +kernel : decode cX11_either1 15 = .ok (.iconst 0, 1))) (hv := by decide)) (
   sndC (sd_if_eq (ht := by decide) (hd := (by decide +kernel : decode cX11_either1 19 = .ok (.ifCond .eq 29, 3)))) (
   sndC (sd_aload_n (hi := rfl) (hd := (by decide +kernel : decode cX11_either1 22 = .ok (.aload_n 0, 1)))) (
   sndC (sd_aload_n (hi := rfl) (hd := (by decide +kernel : decode cX11_either1 26 = .ok (.aload_n 0, 1)))) (
   sndC (sd_istore_n (hi := rfl) (hd := (by decide +kernel : decode cX11_either1 30 = .ok (.istore_n 2, 1)))) (
   sndC (sd_iload_n (hi := rfl) (hd := (by decide +kernel : decode cX11_either1 31 = .ok (.iload_n 1, 1)))) (
   sndC (sd_if_ne (ht := by decide) (hd := (by decide +kernel : decode cX11_either1 32 = .ok (.ifCond .ne 7, 3)))) (
   sndC (sd_iload_n (hi := rfl) (hd := (by decide +kernel : decode cX11_either1 35 = .ok (.iload_n 2, 1)))) (
   sndC (sd_if_eq (ht := by decide) (hd := (by decide +kernel : decode cX11_either1 36 = .ok (.ifCond .eq 7, 3)))) (
   sndC (sd_iconst (hd := (by decide +kernel : decode cX11_either1 39 = .ok (.iconst 1, 1))) (hv := by decide)) (
   sndC (sd_goto (ht := by decide) (hd := (by decide +kernel : decode cX11_either1 40 = .ok (.goto 4, 3)))) (
   sndC (sd_iconst (hd := (by decide +kernel : decode cX11_either1 43 = .ok (.iconst 0, 1))) (hv := by decide)) (
   sndC (sd_istore_n (hi := rfl) (hd := (by decide +kernel : decode cX11_either1 44 = .ok (.istore_n 1, 1)))) (
   sndC (sd_goto (ht := by decide) (hd := (by decide +kernel : decode cX11_either1 45 = .ok (.goto (-40), 3)))) (
   sndC (sd_iload_n (hi := rfl) (hd := (by decide +kernel : decode cX11_either1 48 = .ok (.iload_n 1, 1)))) (
   sndN)))))))))))))))))))))))))⟩
theorem kX11_either1_1 : CallAt mX11_either1 1 0 mX11_both1 0 := ⟨by decide +kernel, ⟨_, (by decide +kernel : decode cX11_either1 1 = .ok (.invokevirtual 307, 3)), w_1370, w_1372, w_97⟩⟩
theorem kX11_either1_16 : CallAt mX11_either1 16 0 mX11_isWord 8 := ⟨by decide +kernel, ⟨_, (by decide +kernel : decode cX11_either1 16 = .ok (.invokevirtual 186, 3)), w_1200, w_1202, w_55⟩⟩
theorem kX11_either1_23 : CallAt mX11_either1 23 0 mX11_nextToken 0 := ⟨by decide +kernel, ⟨_, (by decide +kernel : decode cX11_either1 23 = .ok (.invokevirtual 183, 3)), w_1188, w_1190, w_53⟩⟩
theorem kX11_either1_27 : CallAt mX11_either1 27 0 mX11_both1 0 := ⟨by decide +kernel, ⟨_, (by decide +kernel : decode cX11_either1 27 = .ok (.invokevirtual 307, 3)), w_1370, w_1372, w_97⟩⟩

set_option maxRecDepth 20000 in
theorem GX11_atom0 : Good mX11_atom0 := ⟨by decide +kernel, List.mem_of_getElem? (i := 1365) (by decide +kernel), inX11, ⟨by decide +kernel, by decide +kernel⟩, by decide, show ∀ q ∈ tX11_atom0, Snd mX11_atom0 q.1 q.2 from
  sndC (sd_iconst (hd := (by decide +kernel : decode cX11_atom0 0 = .ok (.iconst 0, 1))) (hv := by decide)) (
   sndC (sd_istore_n (hi := rfl) (hd := (by decide +kernel : decode cX11_atom0 1 = .ok (.istore_n 1, 1)))) (
   sndC (sd_aload_n (hi := rfl) (hd := (by decide +kernel : decode cX11_atom0 2 = .ok (.aload_n 0, 1)))) (
   sndC (sd_bipush (hd := (by decide +kernel : decode cX11_atom0 3 = .ok (.bipush 45, 2))) (hv := by decide)) (
   sndC (sd_if_eq (ht := by decide) (hd := (by decide +kernel : decode cX11_atom0 8 = .ok (.ifCond .eq 29, 3)))) (
   sndC (sd_aload_n (hi := rfl) (hd := (by decide +kernel : decode cX11_atom0 11 = .ok (.aload_n 0, 1)))) (
   sndC (sd_if_eq (ht := by decide) (hd := (by decide +kernel : decode cX11_atom0 15 = .ok (.ifCond .eq 146, 3)))) (
   sndC (sd_aload_n (hi := rfl) (hd := (by decide +kernel : decode cX11_atom0 18 = .ok (.aload_n 0, 1)))) (
   sndC (sd_ineg (hd := (by decide +kernel : decode cX11_atom0 22 = .ok (.ineg, 1)))) (
   sndC (sd_istore_n (hi := rfl) (hd := (by decide +kernel : decode cX11_atom0 23 = .ok (.istore_n 1, 1)))) (
   sndC (sd_aload_n (hi := rfl) (hd := (by decide +kernel : decode cX11_atom0 24 = .ok (.aload_n 0, 1)))) (
   sndC (sd_dup (hd := (by decide +kernel : decode cX11_atom0 25 = .ok (.dup, 1)))) (
   sndC (sd_get (C := RX11) (T := TX11) (N := 41) (hc := rfl) (hin0 := iX11) (hk := by decide) (hlink := w_1038) (hd := (by decide +kernel : decode cX11_atom0 26 = .ok (.getfield 177, 3)))) (
   sndC (sd_iconst (hd := (by decide +kernel : decode cX11_atom0 29 = .ok (.iconst 1, 1))) (hv := by decide)) (
   sndC (sd_isub (hd := (by decide +kernel : decode cX11_atom0 30 = .ok (.isub, 1)))) (
   sndC (sd_putI (C := RX11) (T := TX11) (N := 41) (hc := rfl) (hin0 := iX11) (hk := by decide) (hlink := w_1038) (ty0 := tyX11) (hty := tyX11_ok) (hnm := nmX11) (hfin := rfl) (hi := rfl) (hd := (by decide +kernel : decode cX11_atom0 31 = .ok (.putfield 177, 3)))) (
   sndC (sd_goto (ht := by decide) (hd := (by decide +kernel : decode cX11_atom0 34 = .ok (.goto 127, 3)))) (
   sndC (sd_aload_n (hi := rfl) (hd := (by decide +kernel : decode cX11_atom0 37 = .ok (.aload_n 0, 1)))) (
   sndC (sd_bipush (hd := (by decide +kernel : decode cX11_atom0 38 = .ok (.bipush 40, 2))) (hv := by decide)) (
   sndC (sd_if_eq (ht := by decide) (hd := (by decide +kernel : decode cX11_atom0 43 = .ok (.ifCond .eq 52, 3)))) (
   sndC (sd_aload_n (hi := rfl) (hd := (by decide +kernel : decode cX11_atom0 46 = .ok (.aload_n 0, 1)))) (
   sndC (sd_if_eq (ht := by decide) (hd := (by decide +kernel : decode cX11_atom0 50 = .ok (.ifCond .eq 111, 3)))) (
   sndC (sd_aload_n (hi := rfl) (hd := (by decide +kernel : decode cX11_atom0 53 = .ok (.aload_n 0, 1)))) (
   sndC (sd_istore_n (hi := rfl) (hd := (by decide +kernel : decode cX11_atom0 57 = .ok (.istore_n 1, 1)))) (
   sndC (sd_aload_n (hi := rfl) (hd := (by decide +kernel : decode cX11_atom0 58 = .ok (.aload_n 0, 1)))) (
   sndC (sd_bipush (hd := (by decide +kernel : decode cX11_atom0 59 = .ok (.bipush 41, 2))) (hv := by decide)) (
   sndC (sd_if_ne (ht := by decide) (hd := (by decide +kernel : decode cX11_atom0 64 = .ok (.ifCond .ne 7, 3)))) (
   sndC (sd_aload_n (hi := rfl) (hd := (by decide +kernel : decode cX11_atom0 67 = .ok (.aload_n 0, 1)))) (
   sndC (sd_aload_n (hi := rfl) (hd := (by decide +kernel : decode cX11_atom0 71 = .ok (.aload_n 0, 1)))) (
   sndC (sd_dup (hd := (by decide +kernel : decode cX11_atom0 72 = .ok (.dup, 1)))) (
   sndC (sd_get (C := RX11) (T := TX11) (N := 41) (hc := rfl) (hin0 := iX11) (hk := by decide) (hlink := w_1038) (hd := (by decide +kernel : decode cX11_atom0 73 = .ok (.getfield 177, 3)))) (
   sndC (sd_iconst (hd := (by decide +kernel : decode cX11_atom0 76 = .ok (.iconst 1, 1))) (hv := by decide)) (
   sndC (sd_isub (hd := (by decide +kernel : decode cX11_atom0 77 = .ok (.isub, 1)))) (
   sndC (sd_putI (C := RX11) (T := TX11) (N := 41) (hc := rfl) (hin0 := iX11) (hk := by decide) (hlink := w_1038) (ty0 := tyX11) (hty := tyX11_ok) (hnm := nmX11) (hfin := rfl) (hi := rfl) (hd := (by decide +kernel : decode cX11_atom0 78 = .ok (.putfield 177, 3)))) (
   sndC (sd_aload_n (hi := rfl) (hd := (by decide +kernel : decode cX11_atom0 81 = .ok (.aload_n 0, 1)))) (
   sndC (sd_get (C := RX11) (T := TX11) (N := 41) (hc := rfl) (hin0 := iX11) (hk := by decide) (hlink := w_1039) (hd := (by decide +kernel : decode cX11_atom0 82 = .ok (.getfield 167, 3)))) (
   sndC (sd_if_ne (ht := by decide) (hd := (by decide +kernel : decode cX11_atom0 85 = .ok (.ifCond .ne 76, 3)))) (
   sndC (sd_aload_n (hi := rfl) (hd := (by decide +kernel : decode cX11_atom0 88 = .ok (.aload_n 0, 1)))) (
   sndC (sd_goto (ht := by decide) (hd := (by decide +kernel : decode cX11_atom0 92 = .ok (.goto 69, 3)))) (
   sndC (sd_aload_n (hi := rfl) (hd := (by decide +kernel : decode cX11_atom0 95 = .ok (.aload_n 0, 1)))) (
   sndC (sd_get (C := RX11) (T := TX11) (N := 41) (hc := rfl) (hin0 := iX11) (hk := by decide) (hlink := w_1039) (hd := (by decide +kernel : decode cX11_atom0 96 = .ok (.getfield 167, 3)))) (
   sndC (sd_if_ne (ht := by decide) (hd := (by decide +kernel : decode cX11_atom0 99 = .ok (.ifCond .ne 24, 3)))) (
   sndC (sd_aload_n (hi := rfl) (hd := (by decide +kernel : decode cX11_atom0 102 = .ok (.aload_n 0, 1)))) (
   sndC (sd_get (C := RX11) (T := TX11) (N := 41) (hc := rfl) (hin0 := iX11) (hk := by decide) (hlink := w_1035) (hd := (by decide +kernel : decode cX11_atom0 103 = .ok (.getfield 152, 3)))) (
   sndC (sd_iconst (hd := (by decide +kernel : decode cX11_atom0 106 = .ok (.iconst 2, 1))) (hv := by decide)) (
   sndC (sd_cmp_ne (ht := by decide) (hd := (by decide +kernel : decode cX11_atom0 107 = .ok (.if_icmp .ne 16, 3)))) (
   sndC (sd_aload_n (hi := rfl) (hd := (by decide +kernel : decode cX11_atom0 110 = .ok (.aload_n 0, 1)))) (
   sndC (sd_get (C := RX11) (T := TX11) (N := 41) (hc := rfl) (hin0 := iX11) (hk := by decide) (hlink := w_1037) (hd := (by decide +kernel : decode cX11_atom0 111 = .ok (.getfield 163, 3)))) (
   sndC (sd_l2i (hd := (by decide +kernel : decode cX11_atom0 114 = .ok (.l2i, 1)))) (
   sndC (sd_istore_n (hi := rfl) (hd := (by decide +kernel : decode cX11_atom0 115 = .ok (.istore_n 1, 1)))) (
   sndC (sd_aload_n (hi := rfl) (hd := (by decide +kernel : decode cX11_atom0 116 = .ok (.aload_n 0, 1)))) (
   sndC (sd_goto (ht := by decide) (hd := (by decide +kernel : decode cX11_atom0 120 = .ok (.goto 41, 3)))) (
   sndC (sd_aload_n (hi := rfl) (hd := (by decide +kernel : decode cX11_atom0 123 = .ok (.aload_n 0, 1)))) (
   sndC (sd_get (C := RX11) (T := TX11) (N := 41) (hc := rfl) (hin0 := iX11) (hk := by decide) (hlink := w_1039) (hd := (by decide +kernel : decode cX11_atom0 124 = .ok (.getfield 167, 3)))) (
   sndC (sd_if_ne (ht := by decide) (hd := (by decide +kernel : decode cX11_atom0 127 = .ok (.ifCond .ne 30, 3)))) (
   sndC (sd_aload_n (hi := rfl) (hd := (by decide +kernel : decode cX11_atom0 130 = .ok (.aload_n 0, 1)))) (
   sndC (sd_get (C := RX11) (T := TX11) (N := 41) (hc := rfl) (hin0 := iX11) (hk := by decide) (hlink := w_1035) (hd := (by decide +kernel : decode cX11_atom0 131 = .ok (.getfield 152, 3)))) (
   sndC (sd_iconst (hd := (by decide +kernel : decode cX11_atom0 134 = .ok (.iconst 1, 1))) (hv := by decide)) (
   sndC (sd_cmp_ne (ht := by decide) (hd := (by decide +kernel : decode cX11_atom0 135 = .ok (.if_icmp .ne 22, 3)))) (
   sndC (sd_aload_n (hi := rfl) (hd := (by decide +kernel : decode cX11_atom0 138 = .ok (.aload_n 0, 1)))) (
   sndC (sd_istore_n (hi := rfl) (hd := (by decide +kernel : decode cX11_atom0 142 = .ok (.istore_n 1, 1)))) (
   sndC (sd_aload_n (hi := rfl) (hd := (by decide +kernel : decode cX11_atom0 143 = .ok (.aload_n 0, 1)))) (
   sndC (sd_get (C := RX11) (T := TX11) (N := 41) (hc := rfl) (hin0 := iX11) (hk := by decide) (hlink := w_1039) (hd := (by decide +kernel : decode cX11_atom0 144 = .ok (.getfield 167, 3)))) (
   sndC (sd_if_ne (ht := by decide) (hd := (by decide +kernel : decode cX11_atom0 147 = .ok (.ifCond .ne 14, 3)))) (
   sndC (sd_aload_n (hi := rfl) (hd := (by decide +kernel : decode cX11_atom0 150 = .ok (.aload_n 0, 1)))) (
   sndC (sd_goto (ht := by decide) (hd := (by decide +kernel : decode cX11_atom0 154 = .ok (.goto 7, 3)))) (
   sndC (sd_aload_n (hi := rfl) (hd := (by decide +kernel : decode cX11_atom0 157 = .ok (.aload_n 0, 1)))) (
   sndC (sd_iload_n (hi := rfl) (hd := (by decide +kernel : decode cX11_atom0 161 = .ok (.iload_n 1, 1)))) (
   sndN))))))))))))))))))))))))))))))))))))))))))))))))))))))))))))))))))))⟩
theorem kX11_atom0_5 : CallAt mX11_atom0 5 0 mX11_isSign 1 := ⟨by decide +kernel, ⟨_, (by decide +kernel : decode cX11_atom0 5 = .ok (.invokevirtual 208, 3)), w_1264, w_1266, w_71⟩⟩
theorem kX11_atom0_12 : CallAt mX11_atom0 12 0 mX11_opens 0 := ⟨by decide +kernel, ⟨_, (by decide +kernel : decode cX11_atom0 12 = .ok (.invokevirtual 211, 3)), w_1228, w_1230, w_62⟩⟩
theorem kX11_atom0_19 : CallAt mX11_atom0 19 0 mX11_atom1 0 := ⟨by decide +kernel, ⟨_, (by decide +kernel : decode cX11_atom0 19 = .ok (.invokevirtual 295, 3)), w_1342, w_1344, w_90⟩⟩
theorem kX11_atom0_40 : CallAt mX11_atom0 40 0 mX11_isSign 1 := ⟨by decide +kernel, ⟨_, (by decide +kernel : decode cX11_atom0 40 = .ok (.invokevirtual 208, 3)), w_1264, w_1266, w_71⟩⟩
theorem kX11_atom0_47 : CallAt mX11_atom0 47 0 mX11_opens 0 := ⟨by decide +kernel, ⟨_, (by decide +kernel : decode cX11_atom0 47 = .ok (.invokevirtual 211, 3)), w_1228, w_1230, w_62⟩⟩
theorem kX11_atom0_54 : CallAt mX11_atom0 54 0 mX11_either1 0 := ⟨by decide +kernel, ⟨_, (by decide +kernel : decode cX11_atom0 54 = .ok (.invokevirtual 310, 3)), w_1366, w_1368, w_96⟩⟩
theorem kX11_atom0_61 : CallAt mX11_atom0 61 0 mX11_isSign 1 := ⟨by decide +kernel, ⟨_, (by decide +kernel : decode cX11_atom0 61 = .ok (.invokevirtual 208, 3)), w_1264, w_1266, w_71⟩⟩
theorem kX11_atom0_68 : CallAt mX11_atom0 68 0 mX11_fail 0 := ⟨by decide +kernel, ⟨_, (by decide +kernel : decode cX11_atom0 68 = .ok (.invokevirtual 180, 3)), w_1212, w_1214, w_58⟩⟩
theorem kX11_atom0_89 : CallAt mX11_atom0 89 0 mX11_nextToken 0 := ⟨by decide +kernel, ⟨_, (by decide +kernel : decode cX11_atom0 89 = .ok (.invokevirtual 183, 3)), w_1188, w_1190, w_53⟩⟩
theorem kX11_atom0_117 : CallAt mX11_atom0 117 0 mX11_nextToken 0 := ⟨by decide +kernel, ⟨_, (by decide +kernel : decode cX11_atom0 117 = .ok (.invokevirtual 183, 3)), w_1188, w_1190, w_53⟩⟩
theorem kX11_atom0_139 : CallAt mX11_atom0 139 0 mX11_name 0 := ⟨by decide +kernel, ⟨_, (by decide +kernel : decode cX11_atom0 139 = .ok (.invokevirtual 215, 3)), w_1268, w_1270, w_72⟩⟩
theorem kX11_atom0_151 : CallAt mX11_atom0 151 0 mX11_nextToken 0 := ⟨by decide +kernel, ⟨_, (by decide +kernel : decode cX11_atom0 151 = .ok (.invokevirtual 183, 3)), w_1188, w_1190, w_53⟩⟩
theorem kX11_atom0_158 : CallAt mX11_atom0 158 0 mX11_fail 0 := ⟨by decide +kernel, ⟨_, (by decide +kernel : decode cX11_atom0 158 = .ok (.invokevirtual 180, 3)), w_1212, w_1214, w_58⟩⟩

set_option maxRecDepth 20000 in
theorem GX11_term0 : Good mX11_term0 := ⟨by decide +kernel, List.mem_of_getElem? (i := 1361) (by decide +kernel), inX11, ⟨by decide +kernel, by decide +kernel⟩, by decide, show ∀ q ∈ tX11_term0, Snd mX11_term0 q.1 q.2 from
  sndC (sd_aload_n (hi := rfl) (hd := (by decide +kernel : decode cX11_term0 0 = .ok (.aload_n 0, 1)))) (
   sndC (sd_istore_n (hi := rfl) (hd := (by decide +kernel : decode cX11_term0 4 = .ok (.istore_n 1, 1)))) (
   sndC (sd_aload_n (hi := rfl) (hd := (by decide +kernel : decode cX11_term0 5 = .ok (.aload_n 0, 1)))) (
   sndC (sd_bipush (hd := (by decide +kernel : decode cX11_term0 6 = .ok (.bipush 42, 2))) (hv := by decide)) (
   sndC (sd_if_eq (ht := by decide) (hd := (by decide +kernel : decode cX11_term0 11 = .ok (.ifCond .eq 17, 3)))) (
   sndC (sd_aload_n (hi := rfl) (hd := (by decide +kernel : decode cX11_term0 14 = .ok (.aload_n 0, 1)))) (
   sndC (sd_iload_n (hi := rfl) (hd := (by decide +kernel : decode cX11_term0 18 = .ok (.iload_n 1, 1)))) (
   sndC (sd_aload_n (hi := rfl) (hd := (by decide +kernel : decode cX11_term0 19 = .ok (.aload_n 0, 1)))) (
   sndC (sd_imul (hd := (by decide +kernel : decode cX11_term0 23 = .ok (.imul, 1)))) (
   sndC (sd_istore_n (hi := rfl) (hd := (by decide +kernel : decode cX11_term0 24 = .ok (.istore_n 1, 1)))) (
   sndC (sd_goto (ht := by decide) (hd := (by decide +kernel : decode cX11_term0 25 = .ok (.goto (-20), 3)))) (
   sndC (sd_iload_n (hi := rfl) (hd := (by decide +kernel : decode cX11_term0 28 = .ok (.iload_n 1, 1)))) (
   sndN))))))))))))⟩
theorem kX11_term0_1 : CallAt mX11_term0 1 0 mX11_atom0 0 := ⟨by decide +kernel, ⟨_, (by decide +kernel : decode cX11_term0 1 = .ok (.invokevirtual 313, 3)), w_1362, w_1364, w_95⟩⟩
theorem kX11_term0_8 : CallAt mX11_term0 8 0 mX11_isSign 1 := ⟨by decide +kernel, ⟨_, (by decide +kernel : decode cX11_term0 8 = .ok (.invokevirtual 208, 3)), w_1264, w_1266, w_71⟩⟩
theorem kX11_term0_15 : CallAt mX11_term0 15 0 mX11_nextToken 0 := ⟨by decide +kernel, ⟨_, (by decide +kernel : decode cX11_term0 15 = .ok (.invokevirtual 183, 3)), w_1188, w_1190, w_53⟩⟩
theorem kX11_term0_20 : CallAt mX11_term0 20 0 mX11_atom0 0 := ⟨by decide +kernel, ⟨_, (by decide +kernel : decode cX11_term0 20 = .ok (.invokevirtual 313, 3)), w_1362, w_1364, w_95⟩⟩

set_option maxRecDepth 20000 in
theorem GX11_added0 : Good mX11_added0 := ⟨by decide +kernel, List.mem_of_getElem? (i := 1357) (by decide +kernel), inX11, ⟨by decide +kernel, by decide +kernel⟩, by decide, show ∀ q ∈ tX11_added0, Snd mX11_added0 q.1 q.2 from
  sndC (sd_aload_n (hi := rfl) (hd := (by decide +kernel : decode cX11_added0 0 = .ok (.aload_n 0, 1)))) (
   sndC (sd_istore_n (hi := rfl) (hd := (by decide +kernel : decode cX11_added0 4 = .ok (.istore_n 1, 1)))) (
   sndC (sd_aload_n (hi := rfl) (hd := (by decide +kernel : decode cX11_added0 5 = .ok (.aload_n 0, 1)))) (
   sndC (sd_bipush (hd := (by decide +kernel : decode cX11_added0 6 = .ok (.bipush 43, 2))) (hv := by decide)) (
   sndC (sd_if_ne (ht := by decide) (hd := (by decide +kernel : decode cX11_added0 11 = .ok (.ifCond .ne 12, 3)))) (
   sndC (sd_aload_n (hi := rfl) (hd := (by decide +kernel : decode cX11_added0 14 = .ok (.aload_n 0, 1)))) (
   sndC (sd_bipush (hd := (by decide +kernel : decode cX11_added0 15 = .ok (.bipush 45, 2))) (hv := by decide)) (
   sndC (sd_if_eq (ht := by decide) (hd := (by decide +kernel : decode cX11_added0 20 = .ok (.ifCond .eq 46, 3)))) (
   sndC (sd_aload_n (hi := rfl) (hd := (by decide +kernel : decode cX11_added0 23 = .ok (.aload_n 0, 1)))) (
   sndC (sd_get (C := RX11) (T := TX11) (N := 41) (hc := rfl) (hin0 := iX11) (hk := by decide) (hlink := w_1037) (hd := (by decide +kernel : decode cX11_added0 24 = .ok (.getfield 163, 3)))) (
   sndC (sd_ldc2 (hw := w_1272) (hd := (by decide +kernel : decode cX11_added0 27 = .ok (.ldc2_w 225, 3)))) (
   sndC (sd_lcmp (hd := (by decide +kernel : decode cX11_added0 30 = .ok (.lcmp, 1)))) (
   sndC (sd_if_ne (ht := by decide) (hd := (by decide +kernel : decode cX11_added0 31 = .ok (.ifCond .ne 7, 3)))) (
   sndC (sd_iconst (hd := (by decide +kernel : decode cX11_added0 34 = .ok (.iconst 1, 1))) (hv := by decide)) (
   sndC (sd_goto (ht := by decide) (hd := (by decide +kernel : decode cX11_added0 35 = .ok (.goto 4, 3)))) (
   sndC (sd_iconst (hd := (by decide +kernel : decode cX11_added0 38 = .ok (.iconst 0, 1))) (hv := by decide)) (
   sndC (sd_istore_n (hi := rfl) (hd := (by decide +kernel : decode cX11_added0 39 = .ok (.istore_n 2, 1)))) (
   sndC (sd_aload_n (hi := rfl) (hd := (by decide +kernel : decode cX11_added0 40 = .ok (.aload_n 0, 1)))) (
   sndC (sd_aload_n (hi := rfl) (hd := (by decide +kernel : decode cX11_added0 44 = .ok (.aload_n 0, 1)))) (
   sndC (sd_istore_n (hi := rfl) (hd := (by decide +kernel : decode cX11_added0 48 = .ok (.istore_n 3, 1)))) (
   sndC (sd_iload_n (hi := rfl) (hd := (by decide +kernel : decode cX11_added0 49 = .ok (.iload_n 2, 1)))) (
   sndC (sd_if_eq (ht := by decide) (hd := (by decide +kernel : decode cX11_added0 50 = .ok (.ifCond .eq 9, 3)))) (
   sndC (sd_iload_n (hi := rfl) (hd := (by decide +kernel : decode cX11_added0 53 = .ok (.iload_n 1, 1)))) (
   sndC (sd_iload_n (hi := rfl) (hd := (by decide +kernel : decode cX11_added0 54 = .ok (.iload_n 3, 1)))) (
   sndC (sd_iadd (hd := (by decide +kernel : decode cX11_added0 55 = .ok (.iadd, 1)))) (
   sndC (sd_goto (ht := by decide) (hd := (by decide +kernel : decode cX11_added0 56 = .ok (.goto 6, 3)))) (
   sndC (sd_iload_n (hi := rfl) (hd := (by decide +kernel : decode cX11_added0 59 = .ok (.iload_n 1, 1)))) (
   sndC (sd_iload_n (hi := rfl) (hd := (by decide +kernel : decode cX11_added0 60 = .ok (.iload_n 3, 1)))) (
   sndC (sd_isub (hd := (by decide +kernel : decode cX11_added0 61 = .ok (.isub, 1)))) (
   sndC (sd_istore_n (hi := rfl) (hd := (by decide +kernel : decode cX11_added0 62 = .ok (.istore_n 1, 1)))) (
   sndC (sd_goto (ht := by decide) (hd := (by decide +kernel : decode cX11_added0 63 = .ok (.goto (-58), 3)))) (
   sndC (sd_iload_n (hi := rfl) (hd := (by decide +kernel : decode cX11_added0 66 = .ok (.iload_n 1, 1)))) (
   sndN))))))))))))))))))))))))))))))))⟩
theorem kX11_added0_1 : CallAt mX11_added0 1 0 mX11_term0 0 := ⟨by decide +kernel, ⟨_, (by decide +kernel : decode cX11_added0 1 = .ok (.invokevirtual 316, 3)), w_1358, w_1360, w_94⟩⟩
theorem kX11_added0_8 : CallAt mX11_added0 8 0 mX11_isSign 1 := ⟨by decide +kernel, ⟨_, (by decide +kernel : decode cX11_added0 8 = .ok (.invokevirtual 208, 3)), w_1264, w_1266, w_71⟩⟩
theorem kX11_added0_17 : CallAt mX11_added0 17 0 mX11_isSign 1 := ⟨by decide +kernel, ⟨_, (by decide +kernel : decode cX11_added0 17 = .ok (.invokevirtual 208, 3)), w_1264, w_1266, w_71⟩⟩
theorem kX11_added0_41 : CallAt mX11_added0 41 0 mX11_nextToken 0 := ⟨by decide +kernel, ⟨_, (by decide +kernel : decode cX11_added0 41 = .ok (.invokevirtual 183, 3)), w_1188, w_1190, w_53⟩⟩
theorem kX11_added0_45 : CallAt mX11_added0 45 0 mX11_term0 0 := ⟨by decide +kernel, ⟨_, (by decide +kernel : decode cX11_added0 45 = .ok (.invokevirtual 316, 3)), w_1358, w_1360, w_94⟩⟩

set_option maxRecDepth 20000 in
theorem GX11_not0 : Good mX11_not0 := ⟨by decide +kernel, List.mem_of_getElem? (i := 1227) (by decide +kernel), inX11, ⟨by decide +kernel, by decide +kernel⟩, by decide, show ∀ q ∈ tX11_not0, Snd mX11_not0 q.1 q.2 from
  sndC (sd_aload_n (hi := rfl) (hd := (by decide +kernel : decode cX11_not0 0 = .ok (.aload_n 0, 1)))) (
   sndC (sd_bipush (hd := (by decide +kernel : decode cX11_not0 1 = .ok (.bipush 110, 2))) (hv := by decide)) (
   sndC (sd_bipush (hd := (by decide +kernel : decode cX11_not0 3 = .ok (.bipush 111, 2))) (hv := by decide)) (
   sndC (sd_bipush (hd := (by decide +kernel : decode cX11_not0 5 = .ok (.bipush 116, 2))) (hv := by decide)) (
   sndC (sd_iconst (hd := (by decide +kernel : decode cX11_not0 7 = .ok (.iconst 0, 1))) (hv := by decide)) (
   sndC (sd_iconst (hd := (by decide +kernel : decode cX11_not0 8 = .ok (.iconst 0, 1))) (hv := by decide)) (
   sndC (sd_iconst (hd := (by decide +kernel : decode cX11_not0 9 = .ok (.iconst 0, 1))) (hv := by decide)) (
   sndC (sd_iconst (hd := (by decide +kernel : decode cX11_not0 10 = .ok (.iconst 0, 1))) (hv := by decide)) (
   sndC (sd_iconst (hd := (by decide +kernel : decode cX11_not0 11 = .ok (.iconst 0, 1))) (hv := by decide)) (
   sndC (sd_if_eq (ht := by decide) (hd := (by decide +kernel : decode cX11_not0 15 = .ok (.ifCond .eq 37, 3)))) (
   sndC (sd_aload_n (hi := rfl) (hd := (by decide +kernel : decode cX11_not0 18 = .ok (.aload_n 0, 1)))) (
   sndC (sd_if_ne (ht := by decide) (hd := (by decide +kernel : decode cX11_not0 22 = .ok (.ifCond .ne 5, 3)))) (
   sndC (sd_iconst (hd := (by decide +kernel : decode cX11_not0 25 = .ok (.iconst 0, 1))) (hv := by decide)) (
   sndC (sd_aload_n (hi := rfl) (hd := (by decide +kernel : decode cX11_not0 27 = .ok (.aload_n 0, 1)))) (
   sndC (sd_istore_n (hi := rfl) (hd := (by decide +kernel : decode cX11_not0 31 = .ok (.istore_n 1, 1)))) (
   sndC (sd_aload_n (hi := rfl) (hd := (by decide +kernel : decode cX11_not0 32 = .ok (.aload_n 0, 1)))) (
   sndC (sd_dup (hd := (by decide +kernel : decode cX11_not0 33 = .ok (.dup, 1)))) (
   sndC (sd_get (C := RX11) (T := TX11) (N := 41) (hc := rfl) (hin0 := iX11) (hk := by decide) (hlink := w_1038) (hd := (by decide +kernel : decode cX11_not0 34 = .ok (.getfield 177, 3)))) (
   sndC (sd_iconst (hd := (by decide +kernel : decode cX11_not0 37 = .ok (.iconst 1, 1))) (hv := by decide)) (
   sndC (sd_isub (hd := (by decide +kernel : decode cX11_not0 38 = .ok (.isub, 1)))) (
   sndC (sd_putI (C := RX11) (T := TX11) (N := 41) (hc := rfl) (hin0 := iX11) (hk := by decide) (hlink := w_1038) (ty0 := tyX11) (hty := tyX11_ok) (hnm := nmX11) (hfin := rfl) (hi := rfl) (hd := (by decide +kernel : decode cX11_not0 39 = .ok (.putfield 177, 3)))) (
   sndC (sd_iload_n (hi := rfl) (hd := (by decide +kernel : decode cX11_not0 42 = .ok (.iload_n 1, 1)))) (
   sndC (sd_if_ne (ht := by decide) (hd := (by decide +kernel : decode cX11_not0 43 = .ok (.ifCond .ne 7, 3)))) (
   sndC (sd_iconst (hd := (by decide +kernel : decode cX11_not0 46 = .ok (.iconst 1, 1))) (hv := by decide)) (
   sndC (sd_goto (ht := by decide) (hd := (by decide +kernel : decode cX11_not0 47 = .ok (.goto 4, 3)))) (
   sndC (sd_iconst (hd := (by decide +kernel : decode cX11_not0 50 = .ok (.iconst 0, 1))) (hv := by decide)) (
   sndC (sd_aload_n (hi := rfl) (hd := (by decide +kernel : decode cX11_not0 52 = .ok (.aload_n 0, 1)))) (
   sndC (sd_istore_n (hi := rfl) (hd := (by decide +kernel : decode cX11_not0 56 = .ok (.istore_n 1, 1)))) (
   sndC (sd_aload_n (hi := rfl) (hd := (by decide +kernel : decode cX11_not0 57 = .ok (.aload_n 0, 1)))) (
   sndC (sd_bipush (hd := (by decide +kernel : decode cX11_not0 58 = .ok (.bipush 60, 2))) (hv := by decide)) (
   sndC (sd_if_ne (ht := by decide) (hd := (by decide +kernel : decode cX11_not0 63 = .ok (.ifCond .ne 14, 3)))) (
   sndC (sd_aload_n (hi := rfl) (hd := (by decide +kernel : decode cX11_not0 66 = .ok (.aload_n 0, 1)))) (
   sndC (sd_bipush (hd := (by decide +kernel : decode cX11_not0 67 = .ok (.bipush 61, 2))) (hv := by decide)) (
   sndC (sd_if_ne (ht := by decide) (hd := (by decide +kernel : decode cX11_not0 72 = .ok (.ifCond .ne 5, 3)))) (
   sndC (sd_iload_n (hi := rfl) (hd := (by decide +kernel : decode cX11_not0 75 = .ok (.iload_n 1, 1)))) (
   sndC (sd_aload_n (hi := rfl) (hd := (by decide +kernel : decode cX11_not0 77 = .ok (.aload_n 0, 1)))) (
   sndC (sd_get (C := RX11) (T := TX11) (N := 41) (hc := rfl) (hin0 := iX11) (hk := by decide) (hlink := w_1037) (hd := (by decide +kernel : decode cX11_not0 78 = .ok (.getfield 163, 3)))) (
   sndC (sd_ldc2 (hw := w_1273) (hd := (by decide +kernel : decode cX11_not0 81 = .ok (.ldc2_w 230, 3)))) (
   sndC (sd_lcmp (hd := (by decide +kernel : decode cX11_not0 84 = .ok (.lcmp, 1)))) (
   sndC (sd_if_ne (ht := by decide) (hd := (by decide +kernel : decode cX11_not0 85 = .ok (.ifCond .ne 7, 3)))) (
   sndC (sd_iconst (hd := (by decide +kernel : decode cX11_not0 88 = .ok (.iconst 1, 1))) (hv := by decide)) (
   sndC (sd_goto (ht := by decide) (hd := (by decide +kernel : decode cX11_not0 89 = .ok (.goto 4, 3)))) (
   sndC (sd_iconst (hd := (by decide +kernel : decode cX11_not0 92 = .ok (.iconst 0, 1))) (hv := by decide)) (
   sndC (sd_istore_n (hi := rfl) (hd := (by decide +kernel : decode cX11_not0 93 = .ok (.istore_n 2, 1)))) (
   sndC (sd_aload_n (hi := rfl) (hd := (by decide +kernel : decode cX11_not0 94 = .ok (.aload_n 0, 1)))) (
   sndC (sd_aload_n (hi := rfl) (hd := (by decide +kernel : decode cX11_not0 98 = .ok (.aload_n 0, 1)))) (
   sndC (sd_istore_n (hi := rfl) (hd := (by decide +kernel : decode cX11_not0 102 = .ok (.istore_n 3, 1)))) (
   sndC (sd_iload_n (hi := rfl) (hd := (by decide +kernel : decode cX11_not0 103 = .ok (.iload_n 2, 1)))) (
   sndC (sd_if_eq (ht := by decide) (hd := (by decide +kernel : decode cX11_not0 104 = .ok (.ifCond .eq 11, 3)))) (
   sndC (sd_iload_n (hi := rfl) (hd := (by decide +kernel : decode cX11_not0 107 = .ok (.iload_n 1, 1)))) (
   sndC (sd_iload_n (hi := rfl) (hd := (by decide +kernel : decode cX11_not0 108 = .ok (.iload_n 3, 1)))) (
   sndC (sd_cmp_ge (ht := by decide) (hd := (by decide +kernel : decode cX11_not0 109 = .ok (.if_icmp .ge 15, 3)))) (
   sndC (sd_goto (ht := by decide) (hd := (by decide +kernel : decode cX11_not0 112 = .ok (.goto 8, 3)))) (
   sndC (sd_iload_n (hi := rfl) (hd := (by decide +kernel : decode cX11_not0 115 = .ok (.iload_n 1, 1)))) (
   sndC (sd_iload_n (hi := rfl) (hd := (by decide +kernel : decode cX11_not0 116 = .ok (.iload_n 3, 1)))) (
   sndC (sd_cmp_ne (ht := by decide) (hd := (by decide +kernel : decode cX11_not0 117 = .ok (.if_icmp .ne 7, 3)))) (
   sndC (sd_iconst (hd := (by decide +kernel : decode cX11_not0 120 = .ok (.iconst 1, 1))) (hv := by decide)) (
   sndC (sd_goto (ht := by decide) (hd := (by decide +kernel : decode cX11_not0 121 = .ok (.goto 4, 3)))) (
   sndC (sd_iconst (hd := (by decide +kernel : decode cX11_not0 124 = .ok (.iconst 0, 1))) (hv := by decide)) (
   sndN)))))))))))))))))))))))))))))))))))))))))))))))))))))))))))⟩
theorem kX11_not0_12 : CallAt mX11_not0 12 0 mX11_isWord 8 := ⟨by decide +kernel, ⟨_, (by decide +kernel : decode cX11_not0 12 = .ok (.invokevirtual 186, 3)), w_1200, w_1202, w_55⟩⟩
theorem kX11_not0_19 : CallAt mX11_not0 19 0 mX11_opens 0 := ⟨by decide +kernel, ⟨_, (by decide +kernel : decode cX11_not0 19 = .ok (.invokevirtual 211, 3)), w_1228, w_1230, w_62⟩⟩
theorem kX11_not0_28 : CallAt mX11_not0 28 0 mX11_not1 0 := ⟨by decide +kernel, ⟨_, (by decide +kernel : decode cX11_not0 28 = .ok (.invokevirtual 304, 3)), w_1232, w_1234, w_63⟩⟩
theorem kX11_not0_53 : CallAt mX11_not0 53 0 mX11_added0 0 := ⟨by decide +kernel, ⟨_, (by decide +kernel : decode cX11_not0 53 = .ok (.invokevirtual 319, 3)), w_1354, w_1356, w_93⟩⟩
theorem kX11_not0_60 : CallAt mX11_not0 60 0 mX11_isSign 1 := ⟨by decide +kernel, ⟨_, (by decide +kernel : decode cX11_not0 60 = .ok (.invokevirtual 208, 3)), w_1264, w_1266, w_71⟩⟩
theorem kX11_not0_69 : CallAt mX11_not0 69 0 mX11_isSign 1 := ⟨by decide +kernel, ⟨_, (by decide +kernel : decode cX11_not0 69 = .ok (.invokevirtual 208, 3)), w_1264, w_1266, w_71⟩⟩
theorem kX11_not0_95 : CallAt mX11_not0 95 0 mX11_nextToken 0 := ⟨by decide +kernel, ⟨_, (by decide +kernel : decode cX11_not0 95 = .ok (.invokevirtual 183, 3)), w_1188, w_1190, w_53⟩⟩
theorem kX11_not0_99 : CallAt mX11_not0 99 0 mX11_added0 0 := ⟨by decide +kernel, ⟨_, (by decide +kernel : decode cX11_not0 99 = .ok (.invokevirtual 319, 3)), w_1354, w_1356, w_93⟩⟩

set_option maxRecDepth 20000 in
theorem GX11_both0 : Good mX11_both0 := ⟨by decide +kernel, List.mem_of_getElem? (i := 1223) (by decide +kernel), inX11, ⟨by decide +kernel, by decide +kernel⟩, by decide, show ∀ q ∈ tX11_both0, Snd mX11_both0 q.1 q.2 from
  sndC (sd_aload_n (hi := rfl) (hd := (by decide +kernel : decode cX11_both0 0 = .ok (.aload_n 0, 1)))) (
   sndC (sd_istore_n (hi := rfl) (hd := (by decide +kernel : decode cX11_both0 4 = .ok (.istore_n 1, 1)))) (
   sndC (sd_aload_n (hi := rfl) (hd := (by decide +kernel : decode cX11_both0 5 = .ok (.aload_n 0, 1)))) (
   sndC (sd_bipush (hd := (by decide +kernel : decode cX11_both0 6 = .ok (.bipush 97, 2))) (hv := by decide)) (
   sndC (sd_bipush (hd := (by decide +kernel : decode cX11_both0 8 = .ok (.bipush 110, 2))) (hv := by decide)) (
   sndC (sd_bipush (hd := (by decide +kernel : decode cX11_both0 10 = .ok (.bipush 100, 2))) (hv := by decide)) (
   sndC (sd_iconst (hd := (by decide +kernel : decode cX11_both0 12 = .ok (.iconst 0, 1))) (hv := by decide)) (
   sndC (sd_iconst (hd := (by decide +kernel : decode cX11_both0 13 = .ok (.iconst 0, 1))) (hv := by decide)) (
   sndC (sd_iconst (hd := (by decide +kernel : decode cX11_both0 14 = .ok (.iconst 0, 1))) (hv := by decide)) (
   sndC (sd_iconst (hd := (by decide +kernel : decode cX11_both0 15 = .ok (.iconst 0, 1))) (hv := by decide)) (
   sndC (sd_iconst (hd := (by decide +kernel : decode cX11_both0 16 = .ok (.iconst 0, 1))) (hv := by decide)) (
   sndC (sd_if_eq (ht := by decide) (hd := (by decide +kernel : decode cX11_both0 20 = .ok (.ifCond .eq 29, 3)))) (
   sndC (sd_aload_n (hi := rfl) (hd := (by decide +kernel : decode cX11_both0 23 = .ok (.aload_n 0, 1)))) (
   sndC (sd_aload_n (hi := rfl) (hd := (by decide +kernel : decode cX11_both0 27 = .ok (.aload_n 0, 1)))) (
   sndC (sd_istore_n (hi := rfl) (hd := (by decide +kernel : decode cX11_both0 31 = .ok (.istore_n 2, 1)))) (
   sndC (sd_iload_n (hi := rfl) (hd := (by decide +kernel : decode cX11_both0 32 = .ok (.iload_n 1, 1)))) (
   sndC (sd_if_eq (ht := by decide) (hd := (by decide +kernel : decode cX11_both0 33 = .ok (.ifCond .eq 11, 3)))) (
   sndC (sd_iload_n (hi := rfl) (hd := (by decide +kernel : decode cX11_both0 36 = .ok (.iload_n 2, 1)))) (
   sndC (sd_if_eq (ht := by decide) (hd := (by decide +kernel : decode cX11_both0 37 = .ok (.ifCond .eq 7, 3)))) (
   sndC (sd_iconst (hd := (by decide +kernel : decode cX11_both0 40 = .ok (.iconst 1, 1))) (hv := by decide)) (
   sndC (sd_goto (ht := by decide) (hd := (by decide +kernel : decode cX11_both0 41 = .ok (.goto 4, 3)))) (
   sndC (sd_iconst (hd := (by decide +kernel : decode cX11_both0 44 = .ok (.iconst 0, 1))) (hv := by decide)) (
   sndC (sd_istore_n (hi := rfl) (hd := (by decide +kernel : decode cX11_both0 45 = .ok (.istore_n 1, 1)))) (
   sndC (sd_goto (ht := by decide) (hd := (by decide +kernel : decode cX11_both0 46 = .ok (.goto (-41), 3)))) (
   sndC (sd_iload_n (hi := rfl) (hd := (by decide +kernel : decode cX11_both0 49 = .ok (.iload_n 1, 1)))) (
   sndN)))))))))))))))))))))))))⟩
theorem kX11_both0_1 : CallAt mX11_both0 1 0 mX11_not0 0 := ⟨by decide +kernel, ⟨_, (by decide +kernel : decode cX11_both0 1 = .ok (.invokevirtual 322, 3)), w_1224, w_1226, w_61⟩⟩
theorem kX11_both0_17 : CallAt mX11_both0 17 0 mX11_isWord 8 := ⟨by decide +kernel, ⟨_, (by decide +kernel : decode cX11_both0 17 = .ok (.invokevirtual 186, 3)), w_1200, w_1202, w_55⟩⟩
theorem kX11_both0_24 : CallAt mX11_both0 24 0 mX11_nextToken 0 := ⟨by decide +kernel, ⟨_, (by decide +kernel : decode cX11_both0 24 = .ok (.invokevirtual 183, 3)), w_1188, w_1190, w_53⟩⟩
theorem kX11_both0_28 : CallAt mX11_both0 28 0 mX11_not0 0 := ⟨by decide +kernel, ⟨_, (by decide +kernel : decode cX11_both0 28 = .ok (.invokevirtual 322, 3)), w_1224, w_1226, w_61⟩⟩

set_option maxRecDepth 20000 in
theorem GX11_either0 : Good mX11_either0 := ⟨by decide +kernel, List.mem_of_getElem? (i := 1219) (by decide +kernel), inX11, ⟨by decide +kernel, by decide +kernel⟩, by decide, show ∀ q ∈ tX11_either0, Snd mX11_either0 q.1 q.2 from
  sndC (sd_aload_n (hi := rfl) (hd := (by decide +kernel : decode cX11_either0 0 = .ok (.aload_n 0, 1)))) (
   sndC (sd_istore_n (hi := rfl) (hd := (by decide +kernel : decode cX11_either0 4 = .ok (.istore_n 1, 1)))) (
   sndC (sd_aload_n (hi := rfl) (hd := (by decide +kernel : decode cX11_either0 5 = .ok (.aload_n 0, 1)))) (
   sndC (sd_bipush (hd := (by decide +kernel : decode cX11_either0 6 = .ok (.bipush 111, 2))) (hv := by decide)) (
   sndC (sd_bipush (hd := (by decide +kernel : decode cX11_either0 8 = .ok (.bipush 114, 2))) (hv := by decide)) (
   sndC (sd_iconst (hd := (by decide +kernel : decode cX11_either0 10 = .ok (.iconst 0, 1))) (hv := by decide)) (
   sndC (sd_iconst (hd := (by decide +kernel : decode cX11_either0 11 = .ok (.iconst 0, 1))) (hv := by decide)) (
   sndC (sd_iconst (hd := (by decide +kernel : decode cX11_either0 12 = .ok (.iconst 0, 1))) (hv := by decide)) (
   sndC (sd_iconst (hd := (by decide +kernel : decode cX11_either0 13 = .ok (.iconst 0, 1))) (hv := by decide)) (
   sndC (sd_iconst (hd := (by decide +kernel : decode cX11_either0 14 = .ok (.iconst 0, 1))) (hv := by decide)) (
   sndC (sd_iconst (hd := (by decide +kernel : decode cX11_either0 15 = .ok (.iconst 0, 1))) (hv := by decide)) (
   sndC (sd_if_eq (ht := by decide) (hd := (by decide +kernel : decode cX11_either0 19 = .ok (.ifCond .eq 29, 3)))) (
   sndC (sd_aload_n (hi := rfl) (hd := (by decide +kernel : decode cX11_either0 22 = .ok (.aload_n 0, 1)))) (
   sndC (sd_aload_n (hi := rfl) (hd := (by decide +kernel : decode cX11_either0 26 = .ok (.aload_n 0, 1)))) (
   sndC (sd_istore_n (hi := rfl) (hd := (by decide +kernel : decode cX11_either0 30 = .ok (.istore_n 2, 1)))) (
   sndC (sd_iload_n (hi := rfl) (hd := (by decide +kernel : decode cX11_either0 31 = .ok (.iload_n 1, 1)))) (
   sndC (sd_if_ne (ht := by decide) (hd := (by decide +kernel : decode cX11_either0 32 = .ok (.ifCond .ne 7, 3)))) (
   sndC (sd_iload_n (hi := rfl) (hd := (by decide +kernel : decode cX11_either0 35 = .ok (.iload_n 2, 1)))) (
   sndC (sd_if_eq (ht := by decide) (hd := (by decide +kernel : decode cX11_either0 36 = .ok (.ifCond .eq 7, 3)))) (
   sndC (sd_iconst (hd := (by decide +kernel : decode cX11_either0 39 = .ok (.iconst 1, 1))) (hv := by decide)) (
   sndC (sd_goto (ht := by decide) (hd := (by decide +kernel : decode cX11_either0 40 = .ok (.goto 4, 3)))) (
   sndC (sd_iconst (hd := (by decide +kernel : decode cX11_either0 43 = .ok (.iconst 0, 1))) (hv := by decide)) (
   sndC (sd_istore_n (hi := rfl) (hd := (by decide +kernel : decode cX11_either0 44 = .ok (.istore_n 1, 1)))) (
   sndC (sd_goto (ht := by decide) (hd := (by decide +kernel : decode cX11_either0 45 = .ok (.goto (-40), 3)))) (
   sndC (sd_iload_n (hi := rfl) (hd := (by decide +kernel : decode cX11_either0 48 = .ok (.iload_n 1, 1)))) (
   sndN)))))))))))))))))))))))))⟩
theorem kX11_either0_1 : CallAt mX11_either0 1 0 mX11_both0 0 := ⟨by decide +kernel, ⟨_, (by decide +kernel : decode cX11_either0 1 = .ok (.invokevirtual 325, 3)), w_1220, w_1222, w_60⟩⟩
theorem kX11_either0_16 : CallAt mX11_either0 16 0 mX11_isWord 8 := ⟨by decide +kernel, ⟨_, (by decide +kernel : decode cX11_either0 16 = .ok (.invokevirtual 186, 3)), w_1200, w_1202, w_55⟩⟩
theorem kX11_either0_23 : CallAt mX11_either0 23 0 mX11_nextToken 0 := ⟨by decide +kernel, ⟨_, (by decide +kernel : decode cX11_either0 23 = .ok (.invokevirtual 183, 3)), w_1188, w_1190, w_53⟩⟩
theorem kX11_either0_27 : CallAt mX11_either0 27 0 mX11_both0 0 := ⟨by decide +kernel, ⟨_, (by decide +kernel : decode cX11_either0 27 = .ok (.invokevirtual 325, 3)), w_1220, w_1222, w_60⟩⟩
