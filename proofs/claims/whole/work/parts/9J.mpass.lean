/-! CORNERS OF THE REFERENCE, ONE BY ONE -/
theorem m_there {σ τ : zS} {s : Ab} {R : Nat → Nat → Bool} {now r c k : Nat} {w : Nat → Rd} {Q : zQ} (h : MI σ s) (hRA : ∀ a b, R a b = true → isA (xT s) a = true ∧ isA (xT s) b = true) (hx : RX σ τ (xT s) R now) (hc : c < 1000) (hk : k ≤ 1000) (hb : rb (xT s) R k w) (hj : jn (xT s) R k w) (hr : r < nR (xT s)) (hm : MR τ (w r) r) : zW zP 261 [.ref 88, .int (Int32.ofInt r), .int (Int32.ofInt c)] (hOf τ) Q = Q (.inl (some (.int (bI (att (xT s) R w r && decide (cor (xT s) R w r = c)))))) (hOf τ) := by
  have hwf := MI_w h
  have h12 := hwf.2.2.1
  have h24 := hwf.2.1
  have h16 := hwf.1
  have hM := MI_fK hx.1.1 h
  have hLt := MI_L hM
  have hTt := MI_T hM
  obtain ⟨j1, j2, j3, j4, j5⟩ := hj r hr
  obtain ⟨b1, b2, b3, b4, b5, b6, b7⟩ := hb r hr
  have wl := wn_le (r := r) hwf hRA
  obtain ⟨m1, m2, m3⟩ := hm
  rw [zWE]
  have away : rO (w r) = -1 ∨ rH (w r) ≠ -1 ∨ rG (w r) ≠ 0 → att (xT s) R w r = false := by
    intro q
    cases e : att (xT s) R w r with
    | false => rfl
    | true =>
      have a := att_ok e
      rcases q with q | q | q
      · exact absurd q a.1
      · have := (j2.1 q).1
        omega
      · exact absurd a.2.2 q
  by_cases c2 : rH (w r) = -1
  rotate_left
  · have q2 : (Int32.ofInt (rH (w r)) = Int32.ofInt (-1)) = False := by rw [ii_eq (by omega) (by omega)]; exact eq_false c2
    rw [away (.inr (.inl c2)), Bool.false_and]
    simp -implicitDefEqProofs only [zx_iconst, zx_bipush, zx_sipush, zx_lconst, zx_ldc, zx_ldcS, zx_ldc_w, zx_ldc2_w, zx_iload, zx_lload, zx_aload, zx_istore_n, zx_istore, zx_lstore_n, zx_lstore, zx_astore_n, zx_astore, zx_iinc, zx_iadd, zx_isub, zx_imul, zx_iand, zx_ior, zx_ixor, zx_ishl, zx_ishr, zx_iushr, zx_idiv, zx_irem, zx_ineg, zx_ladd, zx_lsub, zx_land, zx_lor, zx_lxor, zx_lneg, zx_lshl, zx_lushr, zx_i2l, zx_l2i, zx_lcmp, zx_dup, zx_dup2, zx_pop, zx_goto, zx_if_eq, zx_if_ne, zx_if_lt, zx_if_ge, zx_if_gt, zx_if_le, zx_icmp_eq, zx_icmp_ne, zx_icmp_lt, zx_icmp_ge, zx_icmp_gt, zx_icmp_le, zx_getfield, zx_putfield, zx_iaload, zx_laload, zx_aaload, zx_iastore, zx_lastore, zx_arraylength, zx_ireturn, zx_lreturn, zx_areturn, zx_return, zx_athrow, zx_static0, zx_static1, zx_virt1, zx_static2, zx_virt2, zx_static3, zx_virt3, zx_static4, zx_virt4, zx_static5, zx_virt5, zx_static6, zx_virt6, zx_static7, zx_virt7, zx_cpI, zx_cpL, ↓cpI, ↓cpL, zx_slen, zx_schr, zx_tsw, zx_spec3, new_X, zx_new1, zrun_nil, zrun_cons, ↓zgi_h, ↓zgi_n, ↓zgl_h, ↓zgl_n, ↓zgr_h, ↓zgr_n, zset1, zset2, zins_nil, zins_c, f3, cat_i, cat_l, cat_r, List.filter_cons, List.filter_nil, Bool.false_eq_true, l_of0, lv_args, Nat.reduceBEq, Nat.reduceAdd, Nat.reduceLeDiff, Nat.reduceLT, Bool.not_true, Bool.not_false, Bool.and_true, Bool.true_and, Bool.and_false, Bool.false_and, Nat.reduceEqDiff, reduceIte, List.contains_cons, List.contains_nil, Bool.or_false, Bool.or_true, Bool.false_or, Bool.true_or, Fin.isValue, Fin.val_zero, Fin.val_one, Fin.val_two, Fin.reduceFinMk, Option.toList_some, Option.toList_none, List.nil_append, List.cons_append, zwt_nil, zwt_i, zwt_l, zwt_r, zthr_nil, List.isEmpty_nil, zcE, ↓ar_k, lgc0, true_and, and_true, true_implies, implies_true, false_implies, forall_const, i_len, ob_0, ob_1, ↓bI_01, bI_0, not_true_eq_false, not_false_eq_true, Bool.not_eq_false, Bool.not_eq_true, ia_add, ia_sub, ia_mul, ia_neg, ↓ldI, ↓ldL, zaI_c, zaL_c, ↓zlen_I, ↓zlen_L, ↓stI, ↓stL, gD_sI, gN_sI, gI_sI, gJ_sI, gR_sI, gA_sI, gB_sI, gT_sI, gD_sJ, gN_sJ, gI_sJ, gJ_sJ, gR_sJ, gA_sJ, gB_sJ, gT_sJ, gD_sR, gN_sR, gI_sR, gJ_sR, gR_sR, gA_sR, gB_sR, gT_sR, gD_sA, gN_sA, gI_sA, gJ_sA, gR_sA, gA_sA, gB_sA, gT_sA, gD_sB, gN_sB, gI_sB, gJ_sB, gR_sB, gA_sB, gB_sB, gT_sB, zx_il0, zx_il1, zx_il2, zx_il3, zx_ll0, zx_ll1, zx_ll2, zx_ll3, zx_al0, zx_al1, zx_al2, zx_al3, e_has, e_bA, e_mn, e_mx, e_pcI, e_pcL, e_low, tc0, tc1, tc2, tc3, vc0_2, vc1_2, vc0_3, vc1_3, vc2_3, vc0_4, vc1_4, vc2_4, vc3_4, m_in, i10, i20, i00, i11, true_or, false_or, Bool.true_eq_false, eq_self, zml_261, zg261_0, zb261_0, zg261_54, zb261_54, zg261_55, zb261_55, zmc_216, zms_216, zow_216, zhd_216, zmc_261, zms_261, zow_261, zhd_261, ↓gf_11_36, ↓gf_11_38, ↓gf_11_39, ↓gf_11_41, ↓gv_11, show ztg 17 37 = 54 from rfl, show ztg 26 28 = 54 from rfl, show ztg 47 7 = 54 from rfl, show ztg 51 4 = 55 from rfl, show ztg 7 47 = 54 from rfl, LM_d hLt, LM_r38 hLt, LM_k38 hLt, LM_n38 hLt, LM_r41 hLt, LM_k41 hLt, LM_n41 hLt, LM_r39 hLt, LM_k39 hLt, LM_n39 hLt, LM_r36 hLt, LM_k36 hLt, LM_n36 hLt, i_natN (a := r) (by omega), i_inT (a := ((r : Nat) : Int)) (n := 12) (by omega) (by omega), m1, q2]
    apply propext
    exact ⟨fun z => by
      by_cases q : gA τ 1206 r = Int32.ofInt (-1)
      · exact z.1 q
      · exact z.2 q, fun z => ⟨fun _ => z, fun _ => z⟩⟩
  obtain ⟨m4, m5⟩ := m3 c2
  have q2 : (Int32.ofInt (rH (w r)) = Int32.ofInt (-1)) = True := by rw [c2]; exact eq_true rfl
  have no : wn (xT s) R r ≠ 0 → rO (w r) < (wn (xT s) R r : Int) := by
    intro q0
    apply Classical.byContradiction
    intro q
    exact j2.2 ⟨by omega, by omega⟩ c2
  by_cases c3 : rO (w r) = -1
  · have q3 : (Int32.ofInt (rO (w r)) = Int32.ofInt (-1)) = True := by rw [c3]; exact eq_true rfl
    rw [away (.inl c3), Bool.false_and]
    simp -implicitDefEqProofs only [zx_iconst, zx_bipush, zx_sipush, zx_lconst, zx_ldc, zx_ldcS, zx_ldc_w, zx_ldc2_w, zx_iload, zx_lload, zx_aload, zx_istore_n, zx_istore, zx_lstore_n, zx_lstore, zx_astore_n, zx_astore, zx_iinc, zx_iadd, zx_isub, zx_imul, zx_iand, zx_ior, zx_ixor, zx_ishl, zx_ishr, zx_iushr, zx_idiv, zx_irem, zx_ineg, zx_ladd, zx_lsub, zx_land, zx_lor, zx_lxor, zx_lneg, zx_lshl, zx_lushr, zx_i2l, zx_l2i, zx_lcmp, zx_dup, zx_dup2, zx_pop, zx_goto, zx_if_eq, zx_if_ne, zx_if_lt, zx_if_ge, zx_if_gt, zx_if_le, zx_icmp_eq, zx_icmp_ne, zx_icmp_lt, zx_icmp_ge, zx_icmp_gt, zx_icmp_le, zx_getfield, zx_putfield, zx_iaload, zx_laload, zx_aaload, zx_iastore, zx_lastore, zx_arraylength, zx_ireturn, zx_lreturn, zx_areturn, zx_return, zx_athrow, zx_static0, zx_static1, zx_virt1, zx_static2, zx_virt2, zx_static3, zx_virt3, zx_static4, zx_virt4, zx_static5, zx_virt5, zx_static6, zx_virt6, zx_static7, zx_virt7, zx_cpI, zx_cpL, ↓cpI, ↓cpL, zx_slen, zx_schr, zx_tsw, zx_spec3, new_X, zx_new1, zrun_nil, zrun_cons, ↓zgi_h, ↓zgi_n, ↓zgl_h, ↓zgl_n, ↓zgr_h, ↓zgr_n, zset1, zset2, zins_nil, zins_c, f3, cat_i, cat_l, cat_r, List.filter_cons, List.filter_nil, Bool.false_eq_true, l_of0, lv_args, Nat.reduceBEq, Nat.reduceAdd, Nat.reduceLeDiff, Nat.reduceLT, Bool.not_true, Bool.not_false, Bool.and_true, Bool.true_and, Bool.and_false, Bool.false_and, Nat.reduceEqDiff, reduceIte, List.contains_cons, List.contains_nil, Bool.or_false, Bool.or_true, Bool.false_or, Bool.true_or, Fin.isValue, Fin.val_zero, Fin.val_one, Fin.val_two, Fin.reduceFinMk, Option.toList_some, Option.toList_none, List.nil_append, List.cons_append, zwt_nil, zwt_i, zwt_l, zwt_r, zthr_nil, List.isEmpty_nil, zcE, ↓ar_k, lgc0, true_and, and_true, true_implies, implies_true, false_implies, forall_const, i_len, ob_0, ob_1, ↓bI_01, bI_0, not_true_eq_false, not_false_eq_true, Bool.not_eq_false, Bool.not_eq_true, ia_add, ia_sub, ia_mul, ia_neg, ↓ldI, ↓ldL, zaI_c, zaL_c, ↓zlen_I, ↓zlen_L, ↓stI, ↓stL, gD_sI, gN_sI, gI_sI, gJ_sI, gR_sI, gA_sI, gB_sI, gT_sI, gD_sJ, gN_sJ, gI_sJ, gJ_sJ, gR_sJ, gA_sJ, gB_sJ, gT_sJ, gD_sR, gN_sR, gI_sR, gJ_sR, gR_sR, gA_sR, gB_sR, gT_sR, gD_sA, gN_sA, gI_sA, gJ_sA, gR_sA, gA_sA, gB_sA, gT_sA, gD_sB, gN_sB, gI_sB, gJ_sB, gR_sB, gA_sB, gB_sB, gT_sB, zx_il0, zx_il1, zx_il2, zx_il3, zx_ll0, zx_ll1, zx_ll2, zx_ll3, zx_al0, zx_al1, zx_al2, zx_al3, e_has, e_bA, e_mn, e_mx, e_pcI, e_pcL, e_low, tc0, tc1, tc2, tc3, vc0_2, vc1_2, vc0_3, vc1_3, vc2_3, vc0_4, vc1_4, vc2_4, vc3_4, m_in, i10, i20, i00, i11, true_or, false_or, Bool.true_eq_false, eq_self, zml_261, zg261_0, zb261_0, zg261_54, zb261_54, zg261_55, zb261_55, zmc_216, zms_216, zow_216, zhd_216, zmc_261, zms_261, zow_261, zhd_261, ↓gf_11_36, ↓gf_11_38, ↓gf_11_39, ↓gf_11_41, ↓gv_11, show ztg 17 37 = 54 from rfl, show ztg 26 28 = 54 from rfl, show ztg 47 7 = 54 from rfl, show ztg 51 4 = 55 from rfl, show ztg 7 47 = 54 from rfl, LM_d hLt, LM_r38 hLt, LM_k38 hLt, LM_n38 hLt, LM_r41 hLt, LM_k41 hLt, LM_n41 hLt, LM_r39 hLt, LM_k39 hLt, LM_n39 hLt, LM_r36 hLt, LM_k36 hLt, LM_n36 hLt, i_natN (a := r) (by omega), i_inT (a := ((r : Nat) : Int)) (n := 12) (by omega) (by omega), m1, q2, m4, q3]
    rfl
  have q3 : (Int32.ofInt (rO (w r)) = Int32.ofInt (-1)) = False := by rw [ii_eq (by omega) (by omega)]; exact eq_false c3
  obtain ⟨m6, m7⟩ := m5 c3
  have hn0 : wn (xT s) R r ≠ 0 := fun q => c3 (j1 q).1
  have no := no hn0
  by_cases c4 : rG (w r) = 0
  rotate_left
  · have q4 : (Int32.ofInt ((rG (w r) : Nat) : Int) = 0) = False := by rw [ii_eq0 (by omega)]; exact eq_false (by omega)
    rw [away (.inr (.inr c4)), Bool.false_and]
    simp -implicitDefEqProofs only [zx_iconst, zx_bipush, zx_sipush, zx_lconst, zx_ldc, zx_ldcS, zx_ldc_w, zx_ldc2_w, zx_iload, zx_lload, zx_aload, zx_istore_n, zx_istore, zx_lstore_n, zx_lstore, zx_astore_n, zx_astore, zx_iinc, zx_iadd, zx_isub, zx_imul, zx_iand, zx_ior, zx_ixor, zx_ishl, zx_ishr, zx_iushr, zx_idiv, zx_irem, zx_ineg, zx_ladd, zx_lsub, zx_land, zx_lor, zx_lxor, zx_lneg, zx_lshl, zx_lushr, zx_i2l, zx_l2i, zx_lcmp, zx_dup, zx_dup2, zx_pop, zx_goto, zx_if_eq, zx_if_ne, zx_if_lt, zx_if_ge, zx_if_gt, zx_if_le, zx_icmp_eq, zx_icmp_ne, zx_icmp_lt, zx_icmp_ge, zx_icmp_gt, zx_icmp_le, zx_getfield, zx_putfield, zx_iaload, zx_laload, zx_aaload, zx_iastore, zx_lastore, zx_arraylength, zx_ireturn, zx_lreturn, zx_areturn, zx_return, zx_athrow, zx_static0, zx_static1, zx_virt1, zx_static2, zx_virt2, zx_static3, zx_virt3, zx_static4, zx_virt4, zx_static5, zx_virt5, zx_static6, zx_virt6, zx_static7, zx_virt7, zx_cpI, zx_cpL, ↓cpI, ↓cpL, zx_slen, zx_schr, zx_tsw, zx_spec3, new_X, zx_new1, zrun_nil, zrun_cons, ↓zgi_h, ↓zgi_n, ↓zgl_h, ↓zgl_n, ↓zgr_h, ↓zgr_n, zset1, zset2, zins_nil, zins_c, f3, cat_i, cat_l, cat_r, List.filter_cons, List.filter_nil, Bool.false_eq_true, l_of0, lv_args, Nat.reduceBEq, Nat.reduceAdd, Nat.reduceLeDiff, Nat.reduceLT, Bool.not_true, Bool.not_false, Bool.and_true, Bool.true_and, Bool.and_false, Bool.false_and, Nat.reduceEqDiff, reduceIte, List.contains_cons, List.contains_nil, Bool.or_false, Bool.or_true, Bool.false_or, Bool.true_or, Fin.isValue, Fin.val_zero, Fin.val_one, Fin.val_two, Fin.reduceFinMk, Option.toList_some, Option.toList_none, List.nil_append, List.cons_append, zwt_nil, zwt_i, zwt_l, zwt_r, zthr_nil, List.isEmpty_nil, zcE, ↓ar_k, lgc0, true_and, and_true, true_implies, implies_true, false_implies, forall_const, i_len, ob_0, ob_1, ↓bI_01, bI_0, not_true_eq_false, not_false_eq_true, Bool.not_eq_false, Bool.not_eq_true, ia_add, ia_sub, ia_mul, ia_neg, ↓ldI, ↓ldL, zaI_c, zaL_c, ↓zlen_I, ↓zlen_L, ↓stI, ↓stL, gD_sI, gN_sI, gI_sI, gJ_sI, gR_sI, gA_sI, gB_sI, gT_sI, gD_sJ, gN_sJ, gI_sJ, gJ_sJ, gR_sJ, gA_sJ, gB_sJ, gT_sJ, gD_sR, gN_sR, gI_sR, gJ_sR, gR_sR, gA_sR, gB_sR, gT_sR, gD_sA, gN_sA, gI_sA, gJ_sA, gR_sA, gA_sA, gB_sA, gT_sA, gD_sB, gN_sB, gI_sB, gJ_sB, gR_sB, gA_sB, gB_sB, gT_sB, zx_il0, zx_il1, zx_il2, zx_il3, zx_ll0, zx_ll1, zx_ll2, zx_ll3, zx_al0, zx_al1, zx_al2, zx_al3, e_has, e_bA, e_mn, e_mx, e_pcI, e_pcL, e_low, tc0, tc1, tc2, tc3, vc0_2, vc1_2, vc0_3, vc1_3, vc2_3, vc0_4, vc1_4, vc2_4, vc3_4, m_in, i10, i20, i00, i11, true_or, false_or, Bool.true_eq_false, eq_self, zml_261, zg261_0, zb261_0, zg261_54, zb261_54, zg261_55, zb261_55, zmc_216, zms_216, zow_216, zhd_216, zmc_261, zms_261, zow_261, zhd_261, ↓gf_11_36, ↓gf_11_38, ↓gf_11_39, ↓gf_11_41, ↓gv_11, show ztg 17 37 = 54 from rfl, show ztg 26 28 = 54 from rfl, show ztg 47 7 = 54 from rfl, show ztg 51 4 = 55 from rfl, show ztg 7 47 = 54 from rfl, LM_d hLt, LM_r38 hLt, LM_k38 hLt, LM_n38 hLt, LM_r41 hLt, LM_k41 hLt, LM_n41 hLt, LM_r39 hLt, LM_k39 hLt, LM_n39 hLt, LM_r36 hLt, LM_k36 hLt, LM_n36 hLt, i_natN (a := r) (by omega), i_inT (a := ((r : Nat) : Int)) (n := 12) (by omega) (by omega), m1, q2, m4, q3, m6, q4]
    rfl
  have q4 : (Int32.ofInt ((rG (w r) : Nat) : Int) = 0) = True := by rw [c4]; exact eq_true rfl
  obtain ⟨o, ho⟩ : ∃ o : Nat, rO (w r) = (o : Int) := ⟨(rO (w r)).toNat, by omega⟩
  have wa0 := wa_ok (r := r) (k := o) hwf hRA (by omega)
  have pa := (hx.1.2.2.2 r hr).2 o _ wa0.1
  have wb := wf_bg hwf wa0.2
  have e : att (xT s) R w r = true := by
    unfold att onw
    rw [decide_eq_true c3, decide_eq_true no, decide_eq_true c4]
    rfl
  have ec : cor (xT s) R w r = en (xT s) (wa (xT s) R r o) := by
    unfold cor
    rw [ho, Int.toNat_natCast]
  rw [e, ec, Bool.true_and]
  rw [ho] at m4 q3
  simp -implicitDefEqProofs only [zx_iconst, zx_bipush, zx_sipush, zx_lconst, zx_ldc, zx_ldcS, zx_ldc_w, zx_ldc2_w, zx_iload, zx_lload, zx_aload, zx_istore_n, zx_istore, zx_lstore_n, zx_lstore, zx_astore_n, zx_astore, zx_iinc, zx_iadd, zx_isub, zx_imul, zx_iand, zx_ior, zx_ixor, zx_ishl, zx_ishr, zx_iushr, zx_idiv, zx_irem, zx_ineg, zx_ladd, zx_lsub, zx_land, zx_lor, zx_lxor, zx_lneg, zx_lshl, zx_lushr, zx_i2l, zx_l2i, zx_lcmp, zx_dup, zx_dup2, zx_pop, zx_goto, zx_if_eq, zx_if_ne, zx_if_lt, zx_if_ge, zx_if_gt, zx_if_le, zx_icmp_eq, zx_icmp_ne, zx_icmp_lt, zx_icmp_ge, zx_icmp_gt, zx_icmp_le, zx_getfield, zx_putfield, zx_iaload, zx_laload, zx_aaload, zx_iastore, zx_lastore, zx_arraylength, zx_ireturn, zx_lreturn, zx_areturn, zx_return, zx_athrow, zx_static0, zx_static1, zx_virt1, zx_static2, zx_virt2, zx_static3, zx_virt3, zx_static4, zx_virt4, zx_static5, zx_virt5, zx_static6, zx_virt6, zx_static7, zx_virt7, zx_cpI, zx_cpL, ↓cpI, ↓cpL, zx_slen, zx_schr, zx_tsw, zx_spec3, new_X, zx_new1, zrun_nil, zrun_cons, ↓zgi_h, ↓zgi_n, ↓zgl_h, ↓zgl_n, ↓zgr_h, ↓zgr_n, zset1, zset2, zins_nil, zins_c, f3, cat_i, cat_l, cat_r, List.filter_cons, List.filter_nil, Bool.false_eq_true, l_of0, lv_args, Nat.reduceBEq, Nat.reduceAdd, Nat.reduceLeDiff, Nat.reduceLT, Bool.not_true, Bool.not_false, Bool.and_true, Bool.true_and, Bool.and_false, Bool.false_and, Nat.reduceEqDiff, reduceIte, List.contains_cons, List.contains_nil, Bool.or_false, Bool.or_true, Bool.false_or, Bool.true_or, Fin.isValue, Fin.val_zero, Fin.val_one, Fin.val_two, Fin.reduceFinMk, Option.toList_some, Option.toList_none, List.nil_append, List.cons_append, zwt_nil, zwt_i, zwt_l, zwt_r, zthr_nil, List.isEmpty_nil, zcE, ↓ar_k, lgc0, true_and, and_true, true_implies, implies_true, false_implies, forall_const, i_len, ob_0, ob_1, ↓bI_01, bI_0, not_true_eq_false, not_false_eq_true, Bool.not_eq_false, Bool.not_eq_true, ia_add, ia_sub, ia_mul, ia_neg, ↓ldI, ↓ldL, zaI_c, zaL_c, ↓zlen_I, ↓zlen_L, ↓stI, ↓stL, gD_sI, gN_sI, gI_sI, gJ_sI, gR_sI, gA_sI, gB_sI, gT_sI, gD_sJ, gN_sJ, gI_sJ, gJ_sJ, gR_sJ, gA_sJ, gB_sJ, gT_sJ, gD_sR, gN_sR, gI_sR, gJ_sR, gR_sR, gA_sR, gB_sR, gT_sR, gD_sA, gN_sA, gI_sA, gJ_sA, gR_sA, gA_sA, gB_sA, gT_sA, gD_sB, gN_sB, gI_sB, gJ_sB, gR_sB, gA_sB, gB_sB, gT_sB, zx_il0, zx_il1, zx_il2, zx_il3, zx_ll0, zx_ll1, zx_ll2, zx_ll3, zx_al0, zx_al1, zx_al2, zx_al3, e_has, e_bA, e_mn, e_mx, e_pcI, e_pcL, e_low, tc0, tc1, tc2, tc3, vc0_2, vc1_2, vc0_3, vc1_3, vc2_3, vc0_4, vc1_4, vc2_4, vc3_4, m_in, i10, i20, i00, i11, true_or, false_or, Bool.true_eq_false, eq_self, zml_261, zg261_0, zb261_0, zg261_54, zb261_54, zg261_55, zb261_55, zmc_216, zms_216, zow_216, zhd_216, zmc_261, zms_261, zow_261, zhd_261, ↓gf_11_36, ↓gf_11_38, ↓gf_11_39, ↓gf_11_41, ↓gv_11, show ztg 17 37 = 54 from rfl, show ztg 26 28 = 54 from rfl, show ztg 47 7 = 54 from rfl, show ztg 51 4 = 55 from rfl, show ztg 7 47 = 54 from rfl, LM_d hLt, LM_r38 hLt, LM_k38 hLt, LM_n38 hLt, LM_r41 hLt, LM_k41 hLt, LM_n41 hLt, LM_r39 hLt, LM_k39 hLt, LM_n39 hLt, LM_r36 hLt, LM_k36 hLt, LM_n36 hLt, i_natN (a := r) (by omega), i_inT (a := ((r : Nat) : Int)) (n := 12) (by omega) (by omega), m1, q2, m4, q3, m6, q4, LM_p36 hLt r (by omega), LM_q36 hLt r (by omega), i_natN (a := o) (by omega), i_inT (a := ((o : Nat) : Int)) (n := 48) (by omega) (by omega), pa, m_end hTt hwf wa0.2]
  try simp (disch := omega) only [ii_lt, ii_le, ii_eq, ii_eq0, ii_lt0, ii_0lt, ii_le0, ii_0le, i_inT, i_natN, i_nat, ia_div, ia_rem, hs_ofI, i_1shl, i_or, i_bit, true_and, and_true, not_true_eq_false, not_false_eq_true, true_implies, false_implies, implies_true, Int.reduceLT, Int.reduceLE, Int.reduceEq, Int.reduceNeg, Int.toNat_natCast, Int.reduceToNat, Nat.reduceLeDiff, Nat.reduceAdd, tn_2, tn_2p, tn_48, tn_48r, tn_3, tn_3p, tn_3q, tn_p1, tn_d2, tn_12, ia_add, ia_sub, ia_mul]
  by_cases c5 : en (xT s) (wa (xT s) R r o) = c
  · rw [decide_eq_true c5]
    apply propext
    exact ⟨fun z => z.2 (by omega), fun z => ⟨fun q => by omega, fun _ => z⟩⟩
  · rw [decide_eq_false c5]
    apply propext
    exact ⟨fun z => z.1 (by omega), fun z => ⟨fun _ => z, fun q => by omega⟩⟩
/-- when the corners below c are through -/
noncomputable def zc (T : Tw) (R : Nat → Nat → Bool) (now : Nat) (z : Nat → Rd) (c r : Nat) : Rd := @ite _ (att T R z r = true ∧ cor T R z r < c) (Classical.propDecidable _) (lgo T R now z r) (z r)
theorem zc_0 {T : Tw} {R : Nat → Nat → Bool} {now : Nat} {z : Nat → Rd} {r : Nat} : zc T R now z 0 r = z r := by
  unfold zc
  rw [if_neg (fun q => by omega)]
theorem zc_n {T : Tw} {R : Nat → Nat → Bool} {now : Nat} {z : Nat → Rd} {r : Nat} (hw : wf T) (hR : ∀ a b, R a b = true → isA T a = true ∧ isA T b = true) (h4 : -1 ≤ rO (z r)) : zc T R now z (nC T) r = lgo T R now z r := by
  unfold zc
  by_cases c : att T R z r = true
  · have a := att_ok c
    by_cases c2 : rO (z r) = -1
    · exact absurd c2 a.1
    by_cases c3 : cor T R z r < nC T
    · rw [if_pos ⟨c, c3⟩]
    · exfalso
      apply c3
      unfold cor
      have := a.2.1
      exact (wf_bg hw (wa_ok (r := r) (k := (rO (z r)).toNat) hw hR (by omega)).2).2.1
  · rw [if_neg (fun q => c q.1)]
    unfold lgo
    rw [if_neg c]
theorem zc_j {T : Tw} {R : Nat → Nat → Bool} {now k c : Nat} {z : Nat → Rd} (h : jn T R k z) : jn T R k (zc T R now z c) := by
  intro r hr
  unfold zc
  split
  · exact jn_lgo h r hr
  · exact h r hr
theorem zc_b {T : Tw} {R : Nat → Nat → Bool} {now c : Nat} {z : Nat → Rd} (hw : wf T) (hR : ∀ a b, R a b = true → isA T a = true ∧ isA T b = true) (h : rb T R now z) : rb T R (now + 1) (zc T R now z c) := by
  intro r hr
  unfold zc
  split
  · exact rb_lgo hw hR h r hr
  · obtain ⟨b1, b2, b3, b4, b5, b6, b7⟩ := h r hr
    exact ⟨b1, b2, b3, by omega, b5, by omega, by omega⟩
theorem zc_at {T : Tw} {R : Nat → Nat → Bool} {now c r : Nat} {z : Nat → Rd} (hw : wf T) (hR : ∀ a b, R a b = true → isA T a = true ∧ isA T b = true) (h4 : -1 ≤ rO (z r)) : (att T R (zc T R now z c) r && decide (cor T R (zc T R now z c) r = c)) = (att T R z r && decide (cor T R z r = c)) := by
  by_cases c1 : att T R z r = true ∧ cor T R z r < c
  · have a := att_ok c1.1
    have e : zc T R now z c r = lgo T R now z r := if_pos c1
    rw [c1.1, decide_eq_false (show ¬ cor T R z r = c from by omega), Bool.and_false]
    by_cases c2 : fst T R z (cor T R z r) (nR T) = some r
    · have e2 : zc T R now z c r = gon T R now r (z r) := by
        rw [e]
        unfold lgo
        rw [if_pos c1.1, if_pos c2]
      have : att T R (zc T R now z c) r = false := by
        cases q : att T R (zc T R now z c) r with
        | false => rfl
        | true =>
          have b := att_ok q
          rw [e2] at b
          unfold gon at b
          by_cases c3 : rO (z r) + 1 < (wn T R r : Int)
          · rw [if_pos c3] at b
            have b3 : ln T (wa T R r (rO (z r) + 1).toNat) = 0 := b.2.2
            have := wf_bg hw (wa_ok (r := r) (k := (rO (z r) + 1).toNat) hw hR (by omega)).2
            omega
          · rw [if_neg c3] at b
            have b2 : rO (z r) + 1 < (wn T R r : Int) := b.2.1
            omega
      rw [this, Bool.false_and]
    · have e2 : zc T R now z c r = (rO (z r), rG (z r), rC (z r), rH (z r), rW (z r) + 1) := by
        rw [e]
        unfold lgo
        rw [if_pos c1.1, if_neg c2]
      have : cor T R (zc T R now z c) r = cor T R z r := by
        unfold cor
        rw [e2]
        rfl
      rw [this, decide_eq_false (show ¬ cor T R z r = c from by omega), Bool.and_false]
  · have e : zc T R now z c r = z r := if_neg c1
    unfold att cor
    rw [e]
