/-! THE REFERENCE'S CHOICES -/
theorem lq24 {T : Tw} {k : Nat} (hw : wf T) (hk : k < nL T) : lS T k < 24 ∧ lU T k < 24 ∧ k < 576 ∧ lS T k < nS T ∧ lU T k < nS T := by
  have h24 := hw.2.1
  have h1 := lq_ok hk
  have h2 := nL_le hw
  omega
theorem m_allowed {σ : zS} {T : Tw} {r : Rl} {k : Nat} {Q : zQ} (hL : LM σ) (hF : MF σ T) (hw : wf T) (hr : RI (gA σ 608) (gA σ 609) r) (hk : k < nL T) : zW zP 236 [.ref 88, .int (Int32.ofInt k)] (hOf σ) Q = Q (.inl (some (.int (bI (r.2 (lS T k) (lU T k)))))) (hOf σ) := by
  obtain ⟨k1, k2, k3, k4, k5⟩ := lq24 hw hk
  rw [zWE]
  simp -implicitDefEqProofs only [zx_iconst, zx_bipush, zx_sipush, zx_lconst, zx_ldc, zx_ldcS, zx_ldc_w, zx_ldc2_w, zx_iload, zx_lload, zx_aload, zx_istore_n, zx_istore, zx_lstore_n, zx_lstore, zx_astore_n, zx_astore, zx_iinc, zx_iadd, zx_isub, zx_imul, zx_iand, zx_ior, zx_ixor, zx_ishl, zx_ishr, zx_iushr, zx_idiv, zx_irem, zx_ineg, zx_ladd, zx_lsub, zx_land, zx_lor, zx_lxor, zx_lneg, zx_lshl, zx_lushr, zx_i2l, zx_l2i, zx_lcmp, zx_dup, zx_dup2, zx_pop, zx_goto, zx_if_eq, zx_if_ne, zx_if_lt, zx_if_ge, zx_if_gt, zx_if_le, zx_icmp_eq, zx_icmp_ne, zx_icmp_lt, zx_icmp_ge, zx_icmp_gt, zx_icmp_le, zx_getfield, zx_putfield, zx_iaload, zx_laload, zx_aaload, zx_iastore, zx_lastore, zx_arraylength, zx_ireturn, zx_lreturn, zx_areturn, zx_return, zx_athrow, zx_static0, zx_static1, zx_virt1, zx_static2, zx_virt2, zx_static3, zx_virt3, zx_static4, zx_virt4, zx_static5, zx_virt5, zx_static6, zx_virt6, zx_static7, zx_virt7, zx_cpI, zx_cpL, ↓cpI, ↓cpL, zx_slen, zx_schr, zx_tsw, zx_spec3, new_X, zx_new1, zrun_nil, zrun_cons, ↓zgi_h, ↓zgi_n, ↓zgl_h, ↓zgl_n, ↓zgr_h, ↓zgr_n, zset1, zset2, zins_nil, zins_c, f3, cat_i, cat_l, cat_r, List.filter_cons, List.filter_nil, Bool.false_eq_true, l_of0, lv_args, Nat.reduceBEq, Nat.reduceAdd, Nat.reduceLeDiff, Nat.reduceLT, Bool.not_true, Bool.not_false, Bool.and_true, Bool.true_and, Bool.and_false, Bool.false_and, Nat.reduceEqDiff, reduceIte, List.contains_cons, List.contains_nil, Bool.or_false, Bool.or_true, Bool.false_or, Bool.true_or, Fin.isValue, Fin.val_zero, Fin.val_one, Fin.val_two, Fin.reduceFinMk, Option.toList_some, Option.toList_none, List.nil_append, List.cons_append, zwt_nil, zwt_i, zwt_l, zwt_r, zthr_nil, List.isEmpty_nil, zcE, ↓ar_k, lgc0, true_and, and_true, true_implies, implies_true, false_implies, forall_const, i_len, ob_0, ob_1, ↓bI_01, bI_0, not_true_eq_false, not_false_eq_true, Bool.not_eq_false, Bool.not_eq_true, ia_add, ia_sub, ia_mul, ia_neg, ↓ldI, ↓ldL, zaI_c, zaL_c, ↓zlen_I, ↓zlen_L, ↓stI, ↓stL, gD_sI, gN_sI, gI_sI, gJ_sI, gR_sI, gA_sI, gB_sI, gT_sI, gD_sJ, gN_sJ, gI_sJ, gJ_sJ, gR_sJ, gA_sJ, gB_sJ, gT_sJ, gD_sR, gN_sR, gI_sR, gJ_sR, gR_sR, gA_sR, gB_sR, gT_sR, gD_sA, gN_sA, gI_sA, gJ_sA, gR_sA, gA_sA, gB_sA, gT_sA, gD_sB, gN_sB, gI_sB, gJ_sB, gR_sB, gA_sB, gB_sB, gT_sB, zx_il0, zx_il1, zx_il2, zx_il3, zx_ll0, zx_ll1, zx_ll2, zx_ll3, zx_al0, zx_al1, zx_al2, zx_al3, e_has, e_bA, e_mn, e_mx, e_pcI, e_pcL, e_low, tc0, tc1, tc2, tc3, vc0_2, vc1_2, vc0_3, vc1_3, vc2_3, vc0_4, vc1_4, vc2_4, vc3_4, m_in, i10, i20, i00, i11, true_or, false_or, Bool.true_eq_false, eq_self, zml_236, zg236_0, zb236_0, zg236_32, zb236_32, zg236_33, zb236_33, zmc_236, zms_236, zow_236, zhd_236, ↓gf_11_23, ↓gf_11_30, show ztg 25 7 = 32 from rfl, show ztg 29 4 = 33 from rfl, LM_d hL, LM_r23 hL, LM_k23 hL, LM_n23 hL, LM_r30 hL, LM_k30 hL, LM_n30 hL, i_natN (a := k) (by omega), i_inT (a := ((k : Nat) : Int)) (n := 576) (by omega) (by omega), LM_p30 hL k k3, LM_q30 hL k k3, (hF.2 k hk).1, (hF.2 k hk).2, i_natN (a := lS T k) (by omega), i_inT (a := ((lS T k : Nat) : Int)) (n := 24) (by omega) (by omega)]
  try simp (disch := omega) only [ii_lt, ii_le, ii_eq, ii_eq0, ii_lt0, ii_0lt, ii_le0, ii_0le, i_inT, i_natN, i_nat, ia_div, ia_rem, hs_ofI, i_1shl, i_or, i_bit, true_and, and_true, not_true_eq_false, not_false_eq_true, true_implies, false_implies, implies_true, Int.reduceLT, Int.reduceLE, Int.reduceEq, Int.reduceNeg, Int.toNat_natCast, Int.reduceToNat, Nat.reduceLeDiff, Nat.reduceAdd, tn_2, tn_2p, tn_48, tn_48r, tn_3, tn_3p, tn_3q, tn_p1, tn_d2, tn_12, ia_add, ia_sub, ia_mul, ib_bit, hr.2 _ _ k1 k2]
  cases r.2 (lS T k) (lU T k) <;> simp [bIt, bIf]
theorem m_signed {σ : zS} {T : Tw} {r : Rl} {k : Nat} {Q : zQ} (hL : LM σ) (hF : MF σ T) (hw : wf T) (hr : RI (gA σ 608) (gA σ 609) r) (hk : k < nL T) : zW zP 237 [.ref 88, .int (Int32.ofInt k)] (hOf σ) Q = Q (.inl (some (.int (bI (r.1 (lS T k) (lU T k)))))) (hOf σ) := by
  obtain ⟨k1, k2, k3, k4, k5⟩ := lq24 hw hk
  rw [zWE]
  simp -implicitDefEqProofs only [zx_iconst, zx_bipush, zx_sipush, zx_lconst, zx_ldc, zx_ldcS, zx_ldc_w, zx_ldc2_w, zx_iload, zx_lload, zx_aload, zx_istore_n, zx_istore, zx_lstore_n, zx_lstore, zx_astore_n, zx_astore, zx_iinc, zx_iadd, zx_isub, zx_imul, zx_iand, zx_ior, zx_ixor, zx_ishl, zx_ishr, zx_iushr, zx_idiv, zx_irem, zx_ineg, zx_ladd, zx_lsub, zx_land, zx_lor, zx_lxor, zx_lneg, zx_lshl, zx_lushr, zx_i2l, zx_l2i, zx_lcmp, zx_dup, zx_dup2, zx_pop, zx_goto, zx_if_eq, zx_if_ne, zx_if_lt, zx_if_ge, zx_if_gt, zx_if_le, zx_icmp_eq, zx_icmp_ne, zx_icmp_lt, zx_icmp_ge, zx_icmp_gt, zx_icmp_le, zx_getfield, zx_putfield, zx_iaload, zx_laload, zx_aaload, zx_iastore, zx_lastore, zx_arraylength, zx_ireturn, zx_lreturn, zx_areturn, zx_return, zx_athrow, zx_static0, zx_static1, zx_virt1, zx_static2, zx_virt2, zx_static3, zx_virt3, zx_static4, zx_virt4, zx_static5, zx_virt5, zx_static6, zx_virt6, zx_static7, zx_virt7, zx_cpI, zx_cpL, ↓cpI, ↓cpL, zx_slen, zx_schr, zx_tsw, zx_spec3, new_X, zx_new1, zrun_nil, zrun_cons, ↓zgi_h, ↓zgi_n, ↓zgl_h, ↓zgl_n, ↓zgr_h, ↓zgr_n, zset1, zset2, zins_nil, zins_c, f3, cat_i, cat_l, cat_r, List.filter_cons, List.filter_nil, Bool.false_eq_true, l_of0, lv_args, Nat.reduceBEq, Nat.reduceAdd, Nat.reduceLeDiff, Nat.reduceLT, Bool.not_true, Bool.not_false, Bool.and_true, Bool.true_and, Bool.and_false, Bool.false_and, Nat.reduceEqDiff, reduceIte, List.contains_cons, List.contains_nil, Bool.or_false, Bool.or_true, Bool.false_or, Bool.true_or, Fin.isValue, Fin.val_zero, Fin.val_one, Fin.val_two, Fin.reduceFinMk, Option.toList_some, Option.toList_none, List.nil_append, List.cons_append, zwt_nil, zwt_i, zwt_l, zwt_r, zthr_nil, List.isEmpty_nil, zcE, ↓ar_k, lgc0, true_and, and_true, true_implies, implies_true, false_implies, forall_const, i_len, ob_0, ob_1, ↓bI_01, bI_0, not_true_eq_false, not_false_eq_true, Bool.not_eq_false, Bool.not_eq_true, ia_add, ia_sub, ia_mul, ia_neg, ↓ldI, ↓ldL, zaI_c, zaL_c, ↓zlen_I, ↓zlen_L, ↓stI, ↓stL, gD_sI, gN_sI, gI_sI, gJ_sI, gR_sI, gA_sI, gB_sI, gT_sI, gD_sJ, gN_sJ, gI_sJ, gJ_sJ, gR_sJ, gA_sJ, gB_sJ, gT_sJ, gD_sR, gN_sR, gI_sR, gJ_sR, gR_sR, gA_sR, gB_sR, gT_sR, gD_sA, gN_sA, gI_sA, gJ_sA, gR_sA, gA_sA, gB_sA, gT_sA, gD_sB, gN_sB, gI_sB, gJ_sB, gR_sB, gA_sB, gB_sB, gT_sB, zx_il0, zx_il1, zx_il2, zx_il3, zx_ll0, zx_ll1, zx_ll2, zx_ll3, zx_al0, zx_al1, zx_al2, zx_al3, e_has, e_bA, e_mn, e_mx, e_pcI, e_pcL, e_low, tc0, tc1, tc2, tc3, vc0_2, vc1_2, vc0_3, vc1_3, vc2_3, vc0_4, vc1_4, vc2_4, vc3_4, m_in, i10, i20, i00, i11, true_or, false_or, Bool.true_eq_false, eq_self, zml_237, zg237_0, zb237_0, zg237_32, zb237_32, zg237_33, zb237_33, zmc_237, zms_237, zow_237, zhd_237, ↓gf_11_22, ↓gf_11_30, show ztg 25 7 = 32 from rfl, show ztg 29 4 = 33 from rfl, LM_d hL, LM_r22 hL, LM_k22 hL, LM_n22 hL, LM_r30 hL, LM_k30 hL, LM_n30 hL, i_natN (a := k) (by omega), i_inT (a := ((k : Nat) : Int)) (n := 576) (by omega) (by omega), LM_p30 hL k k3, LM_q30 hL k k3, (hF.2 k hk).1, (hF.2 k hk).2, i_natN (a := lS T k) (by omega), i_inT (a := ((lS T k : Nat) : Int)) (n := 24) (by omega) (by omega)]
  try simp (disch := omega) only [ii_lt, ii_le, ii_eq, ii_eq0, ii_lt0, ii_0lt, ii_le0, ii_0le, i_inT, i_natN, i_nat, ia_div, ia_rem, hs_ofI, i_1shl, i_or, i_bit, true_and, and_true, not_true_eq_false, not_false_eq_true, true_implies, false_implies, implies_true, Int.reduceLT, Int.reduceLE, Int.reduceEq, Int.reduceNeg, Int.toNat_natCast, Int.reduceToNat, Nat.reduceLeDiff, Nat.reduceAdd, tn_2, tn_2p, tn_48, tn_48r, tn_3, tn_3p, tn_3q, tn_p1, tn_d2, tn_12, ia_add, ia_sub, ia_mul, ib_bit, hr.1 _ _ k1 k2]
  cases r.1 (lS T k) (lU T k) <;> simp [bIt, bIf]
theorem m_cost {σ : zS} {T : Tw} {k : Nat} {Q : zQ} (h : MT σ T) (hF : MF σ T) (hw : wf T) (hk : k < nL T) : zW zP 240 [.ref 88, .int (Int32.ofInt k)] (hOf σ) Q = Q (.inl (some (.int (Int32.ofInt ((1 + (tN T (lS T k) + tN T (lU T k)) / 10 : Nat) : Int))))) (hOf σ) := by
  obtain ⟨k1, k2, k3, k4, k5⟩ := lq24 hw hk
  have hL := MT_L h
  have t1 := (hw.2.2.2.2.1 (lS T k) k4).2.2.2.2
  have t2 := (hw.2.2.2.2.1 (lU T k) k5).2.2.2.2
  rw [zWE]
  simp -implicitDefEqProofs only [zx_iconst, zx_bipush, zx_sipush, zx_lconst, zx_ldc, zx_ldcS, zx_ldc_w, zx_ldc2_w, zx_iload, zx_lload, zx_aload, zx_istore_n, zx_istore, zx_lstore_n, zx_lstore, zx_astore_n, zx_astore, zx_iinc, zx_iadd, zx_isub, zx_imul, zx_iand, zx_ior, zx_ixor, zx_ishl, zx_ishr, zx_iushr, zx_idiv, zx_irem, zx_ineg, zx_ladd, zx_lsub, zx_land, zx_lor, zx_lxor, zx_lneg, zx_lshl, zx_lushr, zx_i2l, zx_l2i, zx_lcmp, zx_dup, zx_dup2, zx_pop, zx_goto, zx_if_eq, zx_if_ne, zx_if_lt, zx_if_ge, zx_if_gt, zx_if_le, zx_icmp_eq, zx_icmp_ne, zx_icmp_lt, zx_icmp_ge, zx_icmp_gt, zx_icmp_le, zx_getfield, zx_putfield, zx_iaload, zx_laload, zx_aaload, zx_iastore, zx_lastore, zx_arraylength, zx_ireturn, zx_lreturn, zx_areturn, zx_return, zx_athrow, zx_static0, zx_static1, zx_virt1, zx_static2, zx_virt2, zx_static3, zx_virt3, zx_static4, zx_virt4, zx_static5, zx_virt5, zx_static6, zx_virt6, zx_static7, zx_virt7, zx_cpI, zx_cpL, ↓cpI, ↓cpL, zx_slen, zx_schr, zx_tsw, zx_spec3, new_X, zx_new1, zrun_nil, zrun_cons, ↓zgi_h, ↓zgi_n, ↓zgl_h, ↓zgl_n, ↓zgr_h, ↓zgr_n, zset1, zset2, zins_nil, zins_c, f3, cat_i, cat_l, cat_r, List.filter_cons, List.filter_nil, Bool.false_eq_true, l_of0, lv_args, Nat.reduceBEq, Nat.reduceAdd, Nat.reduceLeDiff, Nat.reduceLT, Bool.not_true, Bool.not_false, Bool.and_true, Bool.true_and, Bool.and_false, Bool.false_and, Nat.reduceEqDiff, reduceIte, List.contains_cons, List.contains_nil, Bool.or_false, Bool.or_true, Bool.false_or, Bool.true_or, Fin.isValue, Fin.val_zero, Fin.val_one, Fin.val_two, Fin.reduceFinMk, Option.toList_some, Option.toList_none, List.nil_append, List.cons_append, zwt_nil, zwt_i, zwt_l, zwt_r, zthr_nil, List.isEmpty_nil, zcE, ↓ar_k, lgc0, true_and, and_true, true_implies, implies_true, false_implies, forall_const, i_len, ob_0, ob_1, ↓bI_01, bI_0, not_true_eq_false, not_false_eq_true, Bool.not_eq_false, Bool.not_eq_true, ia_add, ia_sub, ia_mul, ia_neg, ↓ldI, ↓ldL, zaI_c, zaL_c, ↓zlen_I, ↓zlen_L, ↓stI, ↓stL, gD_sI, gN_sI, gI_sI, gJ_sI, gR_sI, gA_sI, gB_sI, gT_sI, gD_sJ, gN_sJ, gI_sJ, gJ_sJ, gR_sJ, gA_sJ, gB_sJ, gT_sJ, gD_sR, gN_sR, gI_sR, gJ_sR, gR_sR, gA_sR, gB_sR, gT_sR, gD_sA, gN_sA, gI_sA, gJ_sA, gR_sA, gA_sA, gB_sA, gT_sA, gD_sB, gN_sB, gI_sB, gJ_sB, gR_sB, gA_sB, gB_sB, gT_sB, zx_il0, zx_il1, zx_il2, zx_il3, zx_ll0, zx_ll1, zx_ll2, zx_ll3, zx_al0, zx_al1, zx_al2, zx_al3, e_has, e_bA, e_mn, e_mx, e_pcI, e_pcL, e_low, tc0, tc1, tc2, tc3, vc0_2, vc1_2, vc0_3, vc1_3, vc2_3, vc0_4, vc1_4, vc2_4, vc3_4, m_in, i10, i20, i00, i11, true_or, false_or, Bool.true_eq_false, eq_self, zml_240, zg240_0, zb240_0, zmc_240, zms_240, zow_240, zhd_240, ↓gf_11_14, ↓gf_11_30, show (Int8.ofInt 10).toInt32 = Int32.ofInt 10 from rfl, LM_d hL, LM_r14 hL, LM_k14 hL, LM_n14 hL, LM_r30 hL, LM_k30 hL, LM_n30 hL, i_natN (a := k) (by omega), i_inT (a := ((k : Nat) : Int)) (n := 576) (by omega) (by omega), LM_p30 hL k k3, LM_q30 hL k k3, (hF.2 k hk).1, (hF.2 k hk).2, i_natN (a := lS T k) (by omega), i_inT (a := ((lS T k : Nat) : Int)) (n := 24) (by omega) (by omega), i_natN (a := lU T k) (by omega), i_inT (a := ((lU T k : Nat) : Int)) (n := 24) (by omega) (by omega), LM_p14 hL _ k1, LM_q14 hL _ k1, LM_p14 hL _ k2, LM_q14 hL _ k2, (MT_s h _ k4).2.2.1, (MT_s h _ k5).2.2.1, show ¬ Int32.ofInt 10 = 0 from by decide]
  try simp (disch := omega) only [ii_lt, ii_le, ii_eq, ii_eq0, ii_lt0, ii_0lt, ii_le0, ii_0le, i_inT, i_natN, i_nat, ia_div, ia_rem, hs_ofI, i_1shl, i_or, i_bit, true_and, and_true, not_true_eq_false, not_false_eq_true, true_implies, false_implies, implies_true, Int.reduceLT, Int.reduceLE, Int.reduceEq, Int.reduceNeg, Int.toNat_natCast, Int.reduceToNat, Nat.reduceLeDiff, Nat.reduceAdd, tn_2, tn_2p, tn_48, tn_48r, tn_3, tn_3p, tn_3q, tn_p1, tn_d2, tn_12, ia_add, ia_sub, ia_mul]
  rw [show (1 : Int) + ((tN T (lS T k) : Int) + (tN T (lU T k) : Int)) / 10 = ((1 + (tN T (lS T k) + tN T (lU T k)) / 10 : Nat) : Int) from by omega]
theorem m_flips {σ : zS} {T : Tw} {r : Rl} {k : Nat} {Q : zQ} (hL : LM σ) (hF : MF σ T) (hw : wf T) (hr : RI (gA σ 608) (gA σ 609) r) (hk : k < nL T) (hQ : ∀ g, RI (gA σ 608) g (r.1, fl r.2 (lS T k) (lU T k)) → Q (.inl none) (hOf (sA σ 609 g))) : zW zP 241 [.ref 88, .int (Int32.ofInt k)] (hOf σ) Q := by
  obtain ⟨k1, k2, k3, k4, k5⟩ := lq24 hw hk
  rw [zWE]
  simp -implicitDefEqProofs only [zx_iconst, zx_bipush, zx_sipush, zx_lconst, zx_ldc, zx_ldcS, zx_ldc_w, zx_ldc2_w, zx_iload, zx_lload, zx_aload, zx_istore_n, zx_istore, zx_lstore_n, zx_lstore, zx_astore_n, zx_astore, zx_iinc, zx_iadd, zx_isub, zx_imul, zx_iand, zx_ior, zx_ixor, zx_ishl, zx_ishr, zx_iushr, zx_idiv, zx_irem, zx_ineg, zx_ladd, zx_lsub, zx_land, zx_lor, zx_lxor, zx_lneg, zx_lshl, zx_lushr, zx_i2l, zx_l2i, zx_lcmp, zx_dup, zx_dup2, zx_pop, zx_goto, zx_if_eq, zx_if_ne, zx_if_lt, zx_if_ge, zx_if_gt, zx_if_le, zx_icmp_eq, zx_icmp_ne, zx_icmp_lt, zx_icmp_ge, zx_icmp_gt, zx_icmp_le, zx_getfield, zx_putfield, zx_iaload, zx_laload, zx_aaload, zx_iastore, zx_lastore, zx_arraylength, zx_ireturn, zx_lreturn, zx_areturn, zx_return, zx_athrow, zx_static0, zx_static1, zx_virt1, zx_static2, zx_virt2, zx_static3, zx_virt3, zx_static4, zx_virt4, zx_static5, zx_virt5, zx_static6, zx_virt6, zx_static7, zx_virt7, zx_cpI, zx_cpL, ↓cpI, ↓cpL, zx_slen, zx_schr, zx_tsw, zx_spec3, new_X, zx_new1, zrun_nil, zrun_cons, ↓zgi_h, ↓zgi_n, ↓zgl_h, ↓zgl_n, ↓zgr_h, ↓zgr_n, zset1, zset2, zins_nil, zins_c, f3, cat_i, cat_l, cat_r, List.filter_cons, List.filter_nil, Bool.false_eq_true, l_of0, lv_args, Nat.reduceBEq, Nat.reduceAdd, Nat.reduceLeDiff, Nat.reduceLT, Bool.not_true, Bool.not_false, Bool.and_true, Bool.true_and, Bool.and_false, Bool.false_and, Nat.reduceEqDiff, reduceIte, List.contains_cons, List.contains_nil, Bool.or_false, Bool.or_true, Bool.false_or, Bool.true_or, Fin.isValue, Fin.val_zero, Fin.val_one, Fin.val_two, Fin.reduceFinMk, Option.toList_some, Option.toList_none, List.nil_append, List.cons_append, zwt_nil, zwt_i, zwt_l, zwt_r, zthr_nil, List.isEmpty_nil, zcE, ↓ar_k, lgc0, true_and, and_true, true_implies, implies_true, false_implies, forall_const, i_len, ob_0, ob_1, ↓bI_01, bI_0, not_true_eq_false, not_false_eq_true, Bool.not_eq_false, Bool.not_eq_true, ia_add, ia_sub, ia_mul, ia_neg, ↓ldI, ↓ldL, zaI_c, zaL_c, ↓zlen_I, ↓zlen_L, ↓stI, ↓stL, gD_sI, gN_sI, gI_sI, gJ_sI, gR_sI, gA_sI, gB_sI, gT_sI, gD_sJ, gN_sJ, gI_sJ, gJ_sJ, gR_sJ, gA_sJ, gB_sJ, gT_sJ, gD_sR, gN_sR, gI_sR, gJ_sR, gR_sR, gA_sR, gB_sR, gT_sR, gD_sA, gN_sA, gI_sA, gJ_sA, gR_sA, gA_sA, gB_sA, gT_sA, gD_sB, gN_sB, gI_sB, gJ_sB, gR_sB, gA_sB, gB_sB, gT_sB, zx_il0, zx_il1, zx_il2, zx_il3, zx_ll0, zx_ll1, zx_ll2, zx_ll3, zx_al0, zx_al1, zx_al2, zx_al3, e_has, e_bA, e_mn, e_mx, e_pcI, e_pcL, e_low, tc0, tc1, tc2, tc3, vc0_2, vc1_2, vc0_3, vc1_3, vc2_3, vc0_4, vc1_4, vc2_4, vc3_4, m_in, i10, i20, i00, i11, true_or, false_or, Bool.true_eq_false, eq_self, zml_241, zg241_0, zb241_0, zmc_241, zms_241, zow_241, zhd_241, ↓gf_11_23, ↓gf_11_30, LM_d hL, LM_r23 hL, LM_k23 hL, LM_n23 hL, LM_r30 hL, LM_k30 hL, LM_n30 hL, i_natN (a := k) (by omega), i_inT (a := ((k : Nat) : Int)) (n := 576) (by omega) (by omega), LM_p30 hL k k3, LM_q30 hL k k3, (hF.2 k hk).1, (hF.2 k hk).2, i_natN (a := lS T k) (by omega), i_inT (a := ((lS T k : Nat) : Int)) (n := 24) (by omega) (by omega)]
  refine hQ _ ⟨hr.1, fun s u hs hu => ?_⟩
  show ib (if s = lS T k then _ else _) u = (r.2 s u ^^ decide (s = lS T k ∧ u = lU T k))
  by_cases c : s = lS T k
  · rw [if_pos c, ib_flip (by omega) (by omega), hr.2 _ _ k1 hu, c]
    simp
  · rw [if_neg c, hr.2 _ _ hs hu, decide_eq_false (fun z => c z.1), Bool.xor_false]
/-- while choices are gone through -/
def CX (σ τ : zS) (T : Tw) (r : Rl) : Prop := fK σ τ ∧ gI τ 88 0 = Int32.ofInt 0 ∧ gI τ 88 33 = Int32.ofInt (cm T r) ∧ ∀ j, j < cm T r → gA τ 1191 j = Int32.ofInt (ca T r j)
theorem CX_A {σ τ : zS} {T : Tw} {r : Rl} {q : Nat} {f : Nat → Int32} (h : CX σ τ T r) (hq : ¬ cor2 q) (h2 : q ≠ 1191) : CX σ (sA τ q f) T r := by
  refine ⟨fK_A h.1 (.inl hq), h.2.1, h.2.2.1, fun j hj => ?_⟩
  rw [gA_sA, if_neg (fun z => h2 z.symm)]
  exact h.2.2.2 j hj
theorem CX_B {σ τ : zS} {T : Tw} {r : Rl} {q : Nat} {f : Nat → Int64} (h : CX σ τ T r) (hq : ¬ cor2 q) : CX σ (sB τ q f) T r := ⟨fK_B h.1 (.inl hq), h.2.1, h.2.2.1, h.2.2.2⟩
theorem CX_I {σ τ : zS} {T : Tw} {r : Rl} {k : Nat} {x : Int32} (h : CX σ τ T r) (hk : ¬ cof k) (h0 : k ≠ 0) (h33 : k ≠ 33) : CX σ (sI τ 88 k x) T r := by
  refine ⟨fK_I h.1 hk, ?_, ?_, h.2.2.2⟩
  · rw [gI_sI, if_neg (fun z => h0 z.2.symm)]
    exact h.2.1
  · rw [gI_sI, if_neg (fun z => h33 z.2.symm)]
    exact h.2.2.1
theorem cm14 {T : Tw} {r : Rl} : cm T r ≤ 14 := Nat.min_le_left _ _
theorem m_later {σ τ0 : zS} {s : Ab} {w : Nat} {Q : zQ} (h : MI σ s) (f0 : fK σ τ0) (e0 : gI τ0 88 0 = Int32.ofInt 0) (hw : w ≤ xn s) (hQ : ∀ τ, CX σ τ (xT s) (xH s w) → RI (gA τ 608) (gA τ 609) (xH s w) → Q (.inl none) (hOf τ)) : zW zP 238 [.ref 88, .int (Int32.ofInt w)] (hOf τ0) Q := by
  have hwf := MI_w h
  have hn2 := MI_n2 h
  have h0 := MI_fK f0 h
  have hL := MI_L h0
  have hnl := nL_le hwf
  rw [zWE]
  simp -implicitDefEqProofs only [zx_iconst, zx_bipush, zx_sipush, zx_lconst, zx_ldc, zx_ldcS, zx_ldc_w, zx_ldc2_w, zx_iload, zx_lload, zx_aload, zx_istore_n, zx_istore, zx_lstore_n, zx_lstore, zx_astore_n, zx_astore, zx_iinc, zx_iadd, zx_isub, zx_imul, zx_iand, zx_ior, zx_ixor, zx_ishl, zx_ishr, zx_iushr, zx_idiv, zx_irem, zx_ineg, zx_ladd, zx_lsub, zx_land, zx_lor, zx_lxor, zx_lneg, zx_lshl, zx_lushr, zx_i2l, zx_l2i, zx_lcmp, zx_dup, zx_dup2, zx_pop, zx_goto, zx_if_eq, zx_if_ne, zx_if_lt, zx_if_ge, zx_if_gt, zx_if_le, zx_icmp_eq, zx_icmp_ne, zx_icmp_lt, zx_icmp_ge, zx_icmp_gt, zx_icmp_le, zx_getfield, zx_putfield, zx_iaload, zx_laload, zx_aaload, zx_iastore, zx_lastore, zx_arraylength, zx_ireturn, zx_lreturn, zx_areturn, zx_return, zx_athrow, zx_static0, zx_static1, zx_virt1, zx_static2, zx_virt2, zx_static3, zx_virt3, zx_static4, zx_virt4, zx_static5, zx_virt5, zx_static6, zx_virt6, zx_static7, zx_virt7, zx_cpI, zx_cpL, ↓cpI, ↓cpL, zx_slen, zx_schr, zx_tsw, zx_spec3, new_X, zx_new1, zrun_nil, zrun_cons, ↓zgi_h, ↓zgi_n, ↓zgl_h, ↓zgl_n, ↓zgr_h, ↓zgr_n, zset1, zset2, zins_nil, zins_c, f3, cat_i, cat_l, cat_r, List.filter_cons, List.filter_nil, Bool.false_eq_true, l_of0, lv_args, Nat.reduceBEq, Nat.reduceAdd, Nat.reduceLeDiff, Nat.reduceLT, Bool.not_true, Bool.not_false, Bool.and_true, Bool.true_and, Bool.and_false, Bool.false_and, Nat.reduceEqDiff, reduceIte, List.contains_cons, List.contains_nil, Bool.or_false, Bool.or_true, Bool.false_or, Bool.true_or, Fin.isValue, Fin.val_zero, Fin.val_one, Fin.val_two, Fin.reduceFinMk, Option.toList_some, Option.toList_none, List.nil_append, List.cons_append, zwt_nil, zwt_i, zwt_l, zwt_r, zthr_nil, List.isEmpty_nil, zcE, ↓ar_k, lgc0, true_and, and_true, true_implies, implies_true, false_implies, forall_const, i_len, ob_0, ob_1, ↓bI_01, bI_0, not_true_eq_false, not_false_eq_true, Bool.not_eq_false, Bool.not_eq_true, ia_add, ia_sub, ia_mul, ia_neg, ↓ldI, ↓ldL, zaI_c, zaL_c, ↓zlen_I, ↓zlen_L, ↓stI, ↓stL, gD_sI, gN_sI, gI_sI, gJ_sI, gR_sI, gA_sI, gB_sI, gT_sI, gD_sJ, gN_sJ, gI_sJ, gJ_sJ, gR_sJ, gA_sJ, gB_sJ, gT_sJ, gD_sR, gN_sR, gI_sR, gJ_sR, gR_sR, gA_sR, gB_sR, gT_sR, gD_sA, gN_sA, gI_sA, gJ_sA, gR_sA, gA_sA, gB_sA, gT_sA, gD_sB, gN_sB, gI_sB, gJ_sB, gR_sB, gA_sB, gB_sB, gT_sB, zx_il0, zx_il1, zx_il2, zx_il3, zx_ll0, zx_ll1, zx_ll2, zx_ll3, zx_al0, zx_al1, zx_al2, zx_al3, e_has, e_bA, e_mn, e_mx, e_pcI, e_pcL, e_low, tc0, tc1, tc2, tc3, vc0_2, vc1_2, vc0_3, vc1_3, vc2_3, vc0_4, vc1_4, vc2_4, vc3_4, m_in, i10, i20, i00, i11, true_or, false_or, Bool.true_eq_false, eq_self, zml_238, zg238_0, zb238_0, zb238_12, zg238_48, zb238_48, zg238_68, zb238_68, zg238_74, zb238_74, zmc_237, zms_237, zow_237, zhd_237, zmc_236, zms_236, zow_236, zhd_236, zmc_221, zms_221, zow_221, zhd_221, zmc_238, zms_238, zow_238, zhd_238, ↓gf_11_27, ↓gf_11_32, ↓gf_11_33, ↓gv_11, ↓pp_11_33, ↓pq_11_33, ↓pw_11_33, show (Int8.ofInt 14).toInt32 = Int32.ofInt 14 from rfl, show ztg 17 57 = 74 from rfl, show ztg 26 48 = 74 from rfl, show ztg 34 34 = 68 from rfl, show ztg 42 6 = 48 from rfl, show ztg 45 23 = 68 from rfl, show ztg 71 (-59) = 12 from rfl, LM_d hL, LM_r32 hL, LM_k32 hL, LM_n32 hL]
  refine m_lays hL (by omega) (fun f1 g1 hf1 hg1 => ?_)
  have hr1 : RI f1 g1 (xH s w) := ⟨fun a u ha hu => by rw [hf1 a ha]; exact ((MI_H h0).2 w hw).1 a u ha hu, fun a u ha hu => by rw [hg1 a ha]; exact ((MI_H h0).2 w hw).2 a u ha hu⟩
  have key : ∀ i : Nat, i ≤ nL (xT s) → ∀ τ : zS, ∀ m : Nat, fK σ τ → gI τ 88 0 = Int32.ofInt 0 → RI (gA τ 608) (gA τ 609) (xH s w) → m = min 14 (cp (cdp (xT s) (xH s w)) i) → gI τ 88 33 = Int32.ofInt m → (∀ j, j < m → gA τ 1191 j = Int32.ofInt (ca (xT s) (xH s w) j)) → zfp zP (zcall zP 238) 238 Q 12 [(0, .ref 88), (2, .int (Int32.ofInt i))] [] (hOf τ) 0 0 := by
    refine bk _ ?_
    intro i hi ih τ m kf e0 hr hm e33 hl
    have hT := MI_fK kf h
    have hLt := MI_L hT
    have hm14 : m ≤ 14 := by rw [hm]; exact Nat.min_le_left _ _
    rw [zg238_12]
    have fin : m = cm (xT s) (xH s w) → Q (.inl none) (hOf τ) := by
      intro e
      rw [e] at e33 hl
      exact hQ τ ⟨kf, e0, e33, hl⟩ hr
    by_cases ci : i < nL (xT s)
    · by_cases c14 : m < 14
      · have hmm : m = cp (cdp (xT s) (xH s w)) i := by omega
        simp -implicitDefEqProofs only [zx_iconst, zx_bipush, zx_sipush, zx_lconst, zx_ldc, zx_ldcS, zx_ldc_w, zx_ldc2_w, zx_iload, zx_lload, zx_aload, zx_istore_n, zx_istore, zx_lstore_n, zx_lstore, zx_astore_n, zx_astore, zx_iinc, zx_iadd, zx_isub, zx_imul, zx_iand, zx_ior, zx_ixor, zx_ishl, zx_ishr, zx_iushr, zx_idiv, zx_irem, zx_ineg, zx_ladd, zx_lsub, zx_land, zx_lor, zx_lxor, zx_lneg, zx_lshl, zx_lushr, zx_i2l, zx_l2i, zx_lcmp, zx_dup, zx_dup2, zx_pop, zx_goto, zx_if_eq, zx_if_ne, zx_if_lt, zx_if_ge, zx_if_gt, zx_if_le, zx_icmp_eq, zx_icmp_ne, zx_icmp_lt, zx_icmp_ge, zx_icmp_gt, zx_icmp_le, zx_getfield, zx_putfield, zx_iaload, zx_laload, zx_aaload, zx_iastore, zx_lastore, zx_arraylength, zx_ireturn, zx_lreturn, zx_areturn, zx_return, zx_athrow, zx_static0, zx_static1, zx_virt1, zx_static2, zx_virt2, zx_static3, zx_virt3, zx_static4, zx_virt4, zx_static5, zx_virt5, zx_static6, zx_virt6, zx_static7, zx_virt7, zx_cpI, zx_cpL, ↓cpI, ↓cpL, zx_slen, zx_schr, zx_tsw, zx_spec3, new_X, zx_new1, zrun_nil, zrun_cons, ↓zgi_h, ↓zgi_n, ↓zgl_h, ↓zgl_n, ↓zgr_h, ↓zgr_n, zset1, zset2, zins_nil, zins_c, f3, cat_i, cat_l, cat_r, List.filter_cons, List.filter_nil, Bool.false_eq_true, l_of0, lv_args, Nat.reduceBEq, Nat.reduceAdd, Nat.reduceLeDiff, Nat.reduceLT, Bool.not_true, Bool.not_false, Bool.and_true, Bool.true_and, Bool.and_false, Bool.false_and, Nat.reduceEqDiff, reduceIte, List.contains_cons, List.contains_nil, Bool.or_false, Bool.or_true, Bool.false_or, Bool.true_or, Fin.isValue, Fin.val_zero, Fin.val_one, Fin.val_two, Fin.reduceFinMk, Option.toList_some, Option.toList_none, List.nil_append, List.cons_append, zwt_nil, zwt_i, zwt_l, zwt_r, zthr_nil, List.isEmpty_nil, zcE, ↓ar_k, lgc0, true_and, and_true, true_implies, implies_true, false_implies, forall_const, i_len, ob_0, ob_1, ↓bI_01, bI_0, not_true_eq_false, not_false_eq_true, Bool.not_eq_false, Bool.not_eq_true, ia_add, ia_sub, ia_mul, ia_neg, ↓ldI, ↓ldL, zaI_c, zaL_c, ↓zlen_I, ↓zlen_L, ↓stI, ↓stL, gD_sI, gN_sI, gI_sI, gJ_sI, gR_sI, gA_sI, gB_sI, gT_sI, gD_sJ, gN_sJ, gI_sJ, gJ_sJ, gR_sJ, gA_sJ, gB_sJ, gT_sJ, gD_sR, gN_sR, gI_sR, gJ_sR, gR_sR, gA_sR, gB_sR, gT_sR, gD_sA, gN_sA, gI_sA, gJ_sA, gR_sA, gA_sA, gB_sA, gT_sA, gD_sB, gN_sB, gI_sB, gJ_sB, gR_sB, gA_sB, gB_sB, gT_sB, zx_il0, zx_il1, zx_il2, zx_il3, zx_ll0, zx_ll1, zx_ll2, zx_ll3, zx_al0, zx_al1, zx_al2, zx_al3, e_has, e_bA, e_mn, e_mx, e_pcI, e_pcL, e_low, tc0, tc1, tc2, tc3, vc0_2, vc1_2, vc0_3, vc1_3, vc2_3, vc0_4, vc1_4, vc2_4, vc3_4, m_in, i10, i20, i00, i11, true_or, false_or, Bool.true_eq_false, eq_self, zml_238, zg238_0, zb238_0, zb238_12, zg238_48, zb238_48, zg238_68, zb238_68, zg238_74, zb238_74, zmc_237, zms_237, zow_237, zhd_237, zmc_236, zms_236, zow_236, zhd_236, zmc_221, zms_221, zow_221, zhd_221, zmc_238, zms_238, zow_238, zhd_238, ↓gf_11_27, ↓gf_11_32, ↓gf_11_33, ↓gv_11, ↓pp_11_33, ↓pq_11_33, ↓pw_11_33, show (Int8.ofInt 14).toInt32 = Int32.ofInt 14 from rfl, show ztg 17 57 = 74 from rfl, show ztg 26 48 = 74 from rfl, show ztg 34 34 = 68 from rfl, show ztg 42 6 = 48 from rfl, show ztg 45 23 = 68 from rfl, show ztg 71 (-59) = 12 from rfl, LM_d hLt, LM_r32 hLt, LM_k32 hLt, LM_n32 hLt, (MI_F hT).1, e33, m_allowed hLt (MI_F hT) hwf hr ci, m_signed hLt (MI_F hT) hwf hr ci, i_natN (a := m) (by omega), i_inT (a := ((m : Nat) : Int)) (n := 14) (by omega) (by omega)]
        try simp (disch := omega) only [ii_lt, ii_le, ii_eq, ii_eq0, ii_lt0, ii_0lt, ii_le0, ii_0le, i_inT, i_natN, i_nat, ia_div, ia_rem, hs_ofI, i_1shl, i_or, i_bit, true_and, and_true, not_true_eq_false, not_false_eq_true, true_implies, false_implies, implies_true, Int.reduceLT, Int.reduceLE, Int.reduceEq, Int.reduceNeg, Int.toNat_natCast, Int.reduceToNat, Nat.reduceLeDiff, Nat.reduceAdd, tn_2, tn_2p, tn_48, tn_48r, tn_3, tn_3p, tn_3q, tn_p1, tn_d2, tn_12, ia_add, ia_sub, ia_mul]
        refine ⟨fun z => by omega, fun _ => ⟨fun z => by omega, fun _ => ?_⟩⟩
        have skip : cdp (xT s) (xH s w) i = false → zfp zP (zcall zP 238) 238 Q 12 [(0, .ref 88), (2, .int (Int32.ofInt ((i + 1 : Nat) : Int)))] [] (hOf τ) 0 0 := by
          intro z
          exact ih ci τ m kf e0 hr (by rw [cp_f z]; exact hm) e33 hl
        refine ⟨fun z => ?_, fun z => ⟨fun z2 => ?_, fun z2 => ?_⟩⟩
        · exact skip (by unfold cdp; rw [z]; rfl)
        · have ct : cdp (xT s) (xH s w) i = true := by
            unfold cdp
            rw [z, z2]
            rfl
          refine ih ci _ (m + 1) ?_ ?_ ?_ ?_ ?_ ?_
          · exact fK_I (fK_A kf (.inl (by unfold cor2; omega))) (by unfold cof; omega)
          · rw [gI_sI, if_neg (by omega)]
            exact e0
          · exact hr
          · rw [cp_t ct]
            omega
          · rw [gI_sI, if_pos (by omega)]
            rfl
          · intro j hj
            rw [gA_sI, gA_self]
            show (if j = m then _ else _) = _
            by_cases e : j = m
            · rw [if_pos e, e]
              unfold ca
              rw [hmm, nt_cp ct]
            · rw [if_neg e]
              exact hl j (by omega)
        · exact skip (by unfold cdp; rw [z2, Bool.not_true, Bool.and_false])
      · have hm2 : m = cm (xT s) (xH s w) := by
          have := cp_le2 (p := cdp (xT s) (xH s w)) (show i ≤ nL (xT s) from hi)
          unfold cm
          omega
        simp -implicitDefEqProofs only [zx_iconst, zx_bipush, zx_sipush, zx_lconst, zx_ldc, zx_ldcS, zx_ldc_w, zx_ldc2_w, zx_iload, zx_lload, zx_aload, zx_istore_n, zx_istore, zx_lstore_n, zx_lstore, zx_astore_n, zx_astore, zx_iinc, zx_iadd, zx_isub, zx_imul, zx_iand, zx_ior, zx_ixor, zx_ishl, zx_ishr, zx_iushr, zx_idiv, zx_irem, zx_ineg, zx_ladd, zx_lsub, zx_land, zx_lor, zx_lxor, zx_lneg, zx_lshl, zx_lushr, zx_i2l, zx_l2i, zx_lcmp, zx_dup, zx_dup2, zx_pop, zx_goto, zx_if_eq, zx_if_ne, zx_if_lt, zx_if_ge, zx_if_gt, zx_if_le, zx_icmp_eq, zx_icmp_ne, zx_icmp_lt, zx_icmp_ge, zx_icmp_gt, zx_icmp_le, zx_getfield, zx_putfield, zx_iaload, zx_laload, zx_aaload, zx_iastore, zx_lastore, zx_arraylength, zx_ireturn, zx_lreturn, zx_areturn, zx_return, zx_athrow, zx_static0, zx_static1, zx_virt1, zx_static2, zx_virt2, zx_static3, zx_virt3, zx_static4, zx_virt4, zx_static5, zx_virt5, zx_static6, zx_virt6, zx_static7, zx_virt7, zx_cpI, zx_cpL, ↓cpI, ↓cpL, zx_slen, zx_schr, zx_tsw, zx_spec3, new_X, zx_new1, zrun_nil, zrun_cons, ↓zgi_h, ↓zgi_n, ↓zgl_h, ↓zgl_n, ↓zgr_h, ↓zgr_n, zset1, zset2, zins_nil, zins_c, f3, cat_i, cat_l, cat_r, List.filter_cons, List.filter_nil, Bool.false_eq_true, l_of0, lv_args, Nat.reduceBEq, Nat.reduceAdd, Nat.reduceLeDiff, Nat.reduceLT, Bool.not_true, Bool.not_false, Bool.and_true, Bool.true_and, Bool.and_false, Bool.false_and, Nat.reduceEqDiff, reduceIte, List.contains_cons, List.contains_nil, Bool.or_false, Bool.or_true, Bool.false_or, Bool.true_or, Fin.isValue, Fin.val_zero, Fin.val_one, Fin.val_two, Fin.reduceFinMk, Option.toList_some, Option.toList_none, List.nil_append, List.cons_append, zwt_nil, zwt_i, zwt_l, zwt_r, zthr_nil, List.isEmpty_nil, zcE, ↓ar_k, lgc0, true_and, and_true, true_implies, implies_true, false_implies, forall_const, i_len, ob_0, ob_1, ↓bI_01, bI_0, not_true_eq_false, not_false_eq_true, Bool.not_eq_false, Bool.not_eq_true, ia_add, ia_sub, ia_mul, ia_neg, ↓ldI, ↓ldL, zaI_c, zaL_c, ↓zlen_I, ↓zlen_L, ↓stI, ↓stL, gD_sI, gN_sI, gI_sI, gJ_sI, gR_sI, gA_sI, gB_sI, gT_sI, gD_sJ, gN_sJ, gI_sJ, gJ_sJ, gR_sJ, gA_sJ, gB_sJ, gT_sJ, gD_sR, gN_sR, gI_sR, gJ_sR, gR_sR, gA_sR, gB_sR, gT_sR, gD_sA, gN_sA, gI_sA, gJ_sA, gR_sA, gA_sA, gB_sA, gT_sA, gD_sB, gN_sB, gI_sB, gJ_sB, gR_sB, gA_sB, gB_sB, gT_sB, zx_il0, zx_il1, zx_il2, zx_il3, zx_ll0, zx_ll1, zx_ll2, zx_ll3, zx_al0, zx_al1, zx_al2, zx_al3, e_has, e_bA, e_mn, e_mx, e_pcI, e_pcL, e_low, tc0, tc1, tc2, tc3, vc0_2, vc1_2, vc0_3, vc1_3, vc2_3, vc0_4, vc1_4, vc2_4, vc3_4, m_in, i10, i20, i00, i11, true_or, false_or, Bool.true_eq_false, eq_self, zml_238, zg238_0, zb238_0, zb238_12, zg238_48, zb238_48, zg238_68, zb238_68, zg238_74, zb238_74, zmc_237, zms_237, zow_237, zhd_237, zmc_236, zms_236, zow_236, zhd_236, zmc_221, zms_221, zow_221, zhd_221, zmc_238, zms_238, zow_238, zhd_238, ↓gf_11_27, ↓gf_11_32, ↓gf_11_33, ↓gv_11, ↓pp_11_33, ↓pq_11_33, ↓pw_11_33, show (Int8.ofInt 14).toInt32 = Int32.ofInt 14 from rfl, show ztg 17 57 = 74 from rfl, show ztg 26 48 = 74 from rfl, show ztg 34 34 = 68 from rfl, show ztg 42 6 = 48 from rfl, show ztg 45 23 = 68 from rfl, show ztg 71 (-59) = 12 from rfl, LM_d hLt, LM_r32 hLt, LM_k32 hLt, LM_n32 hLt, (MI_F hT).1, e33]
        try simp (disch := omega) only [ii_lt, ii_le, ii_eq, ii_eq0, ii_lt0, ii_0lt, ii_le0, ii_0le, i_inT, i_natN, i_nat, ia_div, ia_rem, hs_ofI, i_1shl, i_or, i_bit, true_and, and_true, not_true_eq_false, not_false_eq_true, true_implies, false_implies, implies_true, Int.reduceLT, Int.reduceLE, Int.reduceEq, Int.reduceNeg, Int.toNat_natCast, Int.reduceToNat, Nat.reduceLeDiff, Nat.reduceAdd, tn_2, tn_2p, tn_48, tn_48r, tn_3, tn_3p, tn_3q, tn_p1, tn_d2, tn_12, ia_add, ia_sub, ia_mul]
        exact ⟨fun z => by omega, fun _ => ⟨fun _ => fin hm2, fun z => by omega⟩⟩
    · have e : i = nL (xT s) := by omega
      rw [e] at hm
      simp -implicitDefEqProofs only [zx_iconst, zx_bipush, zx_sipush, zx_lconst, zx_ldc, zx_ldcS, zx_ldc_w, zx_ldc2_w, zx_iload, zx_lload, zx_aload, zx_istore_n, zx_istore, zx_lstore_n, zx_lstore, zx_astore_n, zx_astore, zx_iinc, zx_iadd, zx_isub, zx_imul, zx_iand, zx_ior, zx_ixor, zx_ishl, zx_ishr, zx_iushr, zx_idiv, zx_irem, zx_ineg, zx_ladd, zx_lsub, zx_land, zx_lor, zx_lxor, zx_lneg, zx_lshl, zx_lushr, zx_i2l, zx_l2i, zx_lcmp, zx_dup, zx_dup2, zx_pop, zx_goto, zx_if_eq, zx_if_ne, zx_if_lt, zx_if_ge, zx_if_gt, zx_if_le, zx_icmp_eq, zx_icmp_ne, zx_icmp_lt, zx_icmp_ge, zx_icmp_gt, zx_icmp_le, zx_getfield, zx_putfield, zx_iaload, zx_laload, zx_aaload, zx_iastore, zx_lastore, zx_arraylength, zx_ireturn, zx_lreturn, zx_areturn, zx_return, zx_athrow, zx_static0, zx_static1, zx_virt1, zx_static2, zx_virt2, zx_static3, zx_virt3, zx_static4, zx_virt4, zx_static5, zx_virt5, zx_static6, zx_virt6, zx_static7, zx_virt7, zx_cpI, zx_cpL, ↓cpI, ↓cpL, zx_slen, zx_schr, zx_tsw, zx_spec3, new_X, zx_new1, zrun_nil, zrun_cons, ↓zgi_h, ↓zgi_n, ↓zgl_h, ↓zgl_n, ↓zgr_h, ↓zgr_n, zset1, zset2, zins_nil, zins_c, f3, cat_i, cat_l, cat_r, List.filter_cons, List.filter_nil, Bool.false_eq_true, l_of0, lv_args, Nat.reduceBEq, Nat.reduceAdd, Nat.reduceLeDiff, Nat.reduceLT, Bool.not_true, Bool.not_false, Bool.and_true, Bool.true_and, Bool.and_false, Bool.false_and, Nat.reduceEqDiff, reduceIte, List.contains_cons, List.contains_nil, Bool.or_false, Bool.or_true, Bool.false_or, Bool.true_or, Fin.isValue, Fin.val_zero, Fin.val_one, Fin.val_two, Fin.reduceFinMk, Option.toList_some, Option.toList_none, List.nil_append, List.cons_append, zwt_nil, zwt_i, zwt_l, zwt_r, zthr_nil, List.isEmpty_nil, zcE, ↓ar_k, lgc0, true_and, and_true, true_implies, implies_true, false_implies, forall_const, i_len, ob_0, ob_1, ↓bI_01, bI_0, not_true_eq_false, not_false_eq_true, Bool.not_eq_false, Bool.not_eq_true, ia_add, ia_sub, ia_mul, ia_neg, ↓ldI, ↓ldL, zaI_c, zaL_c, ↓zlen_I, ↓zlen_L, ↓stI, ↓stL, gD_sI, gN_sI, gI_sI, gJ_sI, gR_sI, gA_sI, gB_sI, gT_sI, gD_sJ, gN_sJ, gI_sJ, gJ_sJ, gR_sJ, gA_sJ, gB_sJ, gT_sJ, gD_sR, gN_sR, gI_sR, gJ_sR, gR_sR, gA_sR, gB_sR, gT_sR, gD_sA, gN_sA, gI_sA, gJ_sA, gR_sA, gA_sA, gB_sA, gT_sA, gD_sB, gN_sB, gI_sB, gJ_sB, gR_sB, gA_sB, gB_sB, gT_sB, zx_il0, zx_il1, zx_il2, zx_il3, zx_ll0, zx_ll1, zx_ll2, zx_ll3, zx_al0, zx_al1, zx_al2, zx_al3, e_has, e_bA, e_mn, e_mx, e_pcI, e_pcL, e_low, tc0, tc1, tc2, tc3, vc0_2, vc1_2, vc0_3, vc1_3, vc2_3, vc0_4, vc1_4, vc2_4, vc3_4, m_in, i10, i20, i00, i11, true_or, false_or, Bool.true_eq_false, eq_self, zml_238, zg238_0, zb238_0, zb238_12, zg238_48, zb238_48, zg238_68, zb238_68, zg238_74, zb238_74, zmc_237, zms_237, zow_237, zhd_237, zmc_236, zms_236, zow_236, zhd_236, zmc_221, zms_221, zow_221, zhd_221, zmc_238, zms_238, zow_238, zhd_238, ↓gf_11_27, ↓gf_11_32, ↓gf_11_33, ↓gv_11, ↓pp_11_33, ↓pq_11_33, ↓pw_11_33, show (Int8.ofInt 14).toInt32 = Int32.ofInt 14 from rfl, show ztg 17 57 = 74 from rfl, show ztg 26 48 = 74 from rfl, show ztg 34 34 = 68 from rfl, show ztg 42 6 = 48 from rfl, show ztg 45 23 = 68 from rfl, show ztg 71 (-59) = 12 from rfl, LM_d hLt, LM_r32 hLt, LM_k32 hLt, LM_n32 hLt, (MI_F hT).1]
      try simp (disch := omega) only [ii_lt, ii_le, ii_eq, ii_eq0, ii_lt0, ii_0lt, ii_le0, ii_0le, i_inT, i_natN, i_nat, ia_div, ia_rem, hs_ofI, i_1shl, i_or, i_bit, true_and, and_true, not_true_eq_false, not_false_eq_true, true_implies, false_implies, implies_true, Int.reduceLT, Int.reduceLE, Int.reduceEq, Int.reduceNeg, Int.toNat_natCast, Int.reduceToNat, Nat.reduceLeDiff, Nat.reduceAdd, tn_2, tn_2p, tn_48, tn_48r, tn_3, tn_3p, tn_3q, tn_p1, tn_d2, tn_12, ia_add, ia_sub, ia_mul]
      exact ⟨fun _ => fin hm, fun z => by omega⟩
  simp -implicitDefEqProofs only [zx_iconst, zx_bipush, zx_sipush, zx_lconst, zx_ldc, zx_ldcS, zx_ldc_w, zx_ldc2_w, zx_iload, zx_lload, zx_aload, zx_istore_n, zx_istore, zx_lstore_n, zx_lstore, zx_astore_n, zx_astore, zx_iinc, zx_iadd, zx_isub, zx_imul, zx_iand, zx_ior, zx_ixor, zx_ishl, zx_ishr, zx_iushr, zx_idiv, zx_irem, zx_ineg, zx_ladd, zx_lsub, zx_land, zx_lor, zx_lxor, zx_lneg, zx_lshl, zx_lushr, zx_i2l, zx_l2i, zx_lcmp, zx_dup, zx_dup2, zx_pop, zx_goto, zx_if_eq, zx_if_ne, zx_if_lt, zx_if_ge, zx_if_gt, zx_if_le, zx_icmp_eq, zx_icmp_ne, zx_icmp_lt, zx_icmp_ge, zx_icmp_gt, zx_icmp_le, zx_getfield, zx_putfield, zx_iaload, zx_laload, zx_aaload, zx_iastore, zx_lastore, zx_arraylength, zx_ireturn, zx_lreturn, zx_areturn, zx_return, zx_athrow, zx_static0, zx_static1, zx_virt1, zx_static2, zx_virt2, zx_static3, zx_virt3, zx_static4, zx_virt4, zx_static5, zx_virt5, zx_static6, zx_virt6, zx_static7, zx_virt7, zx_cpI, zx_cpL, ↓cpI, ↓cpL, zx_slen, zx_schr, zx_tsw, zx_spec3, new_X, zx_new1, zrun_nil, zrun_cons, ↓zgi_h, ↓zgi_n, ↓zgl_h, ↓zgl_n, ↓zgr_h, ↓zgr_n, zset1, zset2, zins_nil, zins_c, f3, cat_i, cat_l, cat_r, List.filter_cons, List.filter_nil, Bool.false_eq_true, l_of0, lv_args, Nat.reduceBEq, Nat.reduceAdd, Nat.reduceLeDiff, Nat.reduceLT, Bool.not_true, Bool.not_false, Bool.and_true, Bool.true_and, Bool.and_false, Bool.false_and, Nat.reduceEqDiff, reduceIte, List.contains_cons, List.contains_nil, Bool.or_false, Bool.or_true, Bool.false_or, Bool.true_or, Fin.isValue, Fin.val_zero, Fin.val_one, Fin.val_two, Fin.reduceFinMk, Option.toList_some, Option.toList_none, List.nil_append, List.cons_append, zwt_nil, zwt_i, zwt_l, zwt_r, zthr_nil, List.isEmpty_nil, zcE, ↓ar_k, lgc0, true_and, and_true, true_implies, implies_true, false_implies, forall_const, i_len, ob_0, ob_1, ↓bI_01, bI_0, not_true_eq_false, not_false_eq_true, Bool.not_eq_false, Bool.not_eq_true, ia_add, ia_sub, ia_mul, ia_neg, ↓ldI, ↓ldL, zaI_c, zaL_c, ↓zlen_I, ↓zlen_L, ↓stI, ↓stL, gD_sI, gN_sI, gI_sI, gJ_sI, gR_sI, gA_sI, gB_sI, gT_sI, gD_sJ, gN_sJ, gI_sJ, gJ_sJ, gR_sJ, gA_sJ, gB_sJ, gT_sJ, gD_sR, gN_sR, gI_sR, gJ_sR, gR_sR, gA_sR, gB_sR, gT_sR, gD_sA, gN_sA, gI_sA, gJ_sA, gR_sA, gA_sA, gB_sA, gT_sA, gD_sB, gN_sB, gI_sB, gJ_sB, gR_sB, gA_sB, gB_sB, gT_sB, zx_il0, zx_il1, zx_il2, zx_il3, zx_ll0, zx_ll1, zx_ll2, zx_ll3, zx_al0, zx_al1, zx_al2, zx_al3, e_has, e_bA, e_mn, e_mx, e_pcI, e_pcL, e_low, tc0, tc1, tc2, tc3, vc0_2, vc1_2, vc0_3, vc1_3, vc2_3, vc0_4, vc1_4, vc2_4, vc3_4, m_in, i10, i20, i00, i11, true_or, false_or, Bool.true_eq_false, eq_self, zml_238, zg238_0, zb238_0, zb238_12, zg238_48, zb238_48, zg238_68, zb238_68, zg238_74, zb238_74, zmc_237, zms_237, zow_237, zhd_237, zmc_236, zms_236, zow_236, zhd_236, zmc_221, zms_221, zow_221, zhd_221, zmc_238, zms_238, zow_238, zhd_238, ↓gf_11_27, ↓gf_11_32, ↓gf_11_33, ↓gv_11, ↓pp_11_33, ↓pq_11_33, ↓pw_11_33, show (Int8.ofInt 14).toInt32 = Int32.ofInt 14 from rfl, show ztg 17 57 = 74 from rfl, show ztg 26 48 = 74 from rfl, show ztg 34 34 = 68 from rfl, show ztg 42 6 = 48 from rfl, show ztg 45 23 = 68 from rfl, show ztg 71 (-59) = 12 from rfl, LM_d hL, LM_r32 hL, LM_k32 hL, LM_n32 hL]
  have kf : fK σ (sI (sA (sA τ0 608 f1) 609 g1) 88 33 (Int32.ofInt 0)) := fK_I (fK_A (fK_A f0 (.inl (by unfold cor2; omega))) (.inl (by unfold cor2; omega))) (by unfold cof; omega)
  refine zjf rfl (key 0 (by omega) _ 0 kf ?_ ?_ rfl ?_ (fun j hj => by omega))
  · rw [gI_sI, if_neg (by omega)]
    exact e0
  · rw [gA_sI, gA_sA, if_neg (by decide), gA_self, gA_self]
    exact hr1
  · rw [gI_sI, if_pos (by omega)]
    rfl
/-- candidates turned over -/
noncomputable def tg (T : Tw) (r : Rl) (bits : Nat) : Nat → Nat → Nat → Bool
  | 0 => fun _ _ => false
  | n + 1 => fun s u => tg T r bits n s u ^^ (bits.testBit n && decide (s = lS T (ca T r n) ∧ u = lU T (ca T r n)))
theorem tg_ap {T : Tw} {r : Rl} {bits : Nat} : ∀ n, n ≤ cm T r → ∀ s u, (r.2 s u ^^ tg T r bits n s u) = ap T r bits n s u := by
  intro n
  induction n with
  | zero =>
    intro _ s u
    rw [ap_0]
    exact Bool.xor_false _
  | succ n ih =>
    intro hn s u
    show (r.2 s u ^^ (tg T r bits n s u ^^ (bits.testBit n && decide (s = lS T (ca T r n) ∧ u = lU T (ca T r n))))) = _
    have ih := ih (by omega) s u
    rw [← Bool.xor_assoc, ih]
    cases e : bits.testBit n with
    | false =>
      rw [ap_f e, Bool.false_and, Bool.xor_false]
    | true =>
      rw [ap_t e, Bool.true_and]
      show _ = (ap T r bits n s u || decide (lS T (ca T r n) = s ∧ lU T (ca T r n) = u))
      by_cases c : s = lS T (ca T r n) ∧ u = lU T (ca T r n)
      · have : ap T r bits n s u = false := by
          unfold ap
          rw [c.1, c.2, (ca_ok (show n < cm T r from by omega)).2.1, Bool.false_or, cB_f]
          intro ⟨i, i1, _, i3, i4⟩
          have := ca_inj (show i < cm T r from by omega) (show n < cm T r from by omega) i3 i4
          omega
        rw [this, decide_eq_true c, decide_eq_true (p := lS T (ca T r n) = s ∧ lU T (ca T r n) = u) ⟨c.1.symm, c.2.symm⟩]
        rfl
      · rw [decide_eq_false c, decide_eq_false (p := lS T (ca T r n) = s ∧ lU T (ca T r n) = u) (fun z => c ⟨z.1.symm, z.2.symm⟩), Bool.xor_false, Bool.or_false]
theorem op_prs {T : Tw} {R : Nat → Nat → Bool} : decide (prs T R (nC T) = (nC T : Int) * ((nC T : Int) - 1)) = op T R := by
  have le : ∀ n, prs T R n ≤ (n : Int) * ((nC T : Int) - 1) := by
    intro n
    induction n with
    | zero => exact Int.le_of_eq (by show (0 : Int) = _; rw [show ((0 : Nat) : Int) = 0 from rfl, Int.zero_mul])
    | succ n ih =>
      have := cp_le (p := rcB T R n) (nC T)
      show prs T R n + ((cp (rcB T R n) (nC T) : Int) - 1) ≤ _
      rw [show ((n + 1 : Nat) : Int) = (n : Int) + 1 from rfl, Int.add_mul]
      omega
  have ful : ∀ c, cp (rcB T R c) (nC T) = nC T ↔ ∀ d, d < nC T → rcB T R c d = true := by
    intro c
    constructor
    · intro e d hd
      cases q : rcB T R c d with
      | true => rfl
      | false => have := cp_lt hd q; omega
    · intro e
      have : cp (rcB T R c) (nC T) = cp (fun _ => true) (nC T) := cp_congr _ e
      rw [this]
      clear this e
      generalize nC T = m
      induction m with
      | zero => rfl
      | succ m ih => show cp _ m + 1 = _; rw [ih]
  have all : ∀ n, prs T R n = (n : Int) * ((nC T : Int) - 1) ↔ ∀ c, c < n → cp (rcB T R c) (nC T) = nC T := by
    intro n
    induction n with
    | zero =>
      refine ⟨fun _ c hc => by omega, fun _ => ?_⟩
      show (0 : Int) = _
      rw [show ((0 : Nat) : Int) = 0 from rfl, Int.zero_mul]
    | succ n ih =>
      have l1 := le n
      have l2 := cp_le (p := rcB T R n) (nC T)
      have e1 : prs T R (n + 1) = prs T R n + ((cp (rcB T R n) (nC T) : Int) - 1) := rfl
      have e2 : ((n + 1 : Nat) : Int) * ((nC T : Int) - 1) = (n : Int) * ((nC T : Int) - 1) + ((nC T : Int) - 1) := by
        rw [show ((n + 1 : Nat) : Int) = (n : Int) + 1 from rfl, Int.add_mul, Int.one_mul]
      rw [e1, e2]
      constructor
      · intro e c hc
        by_cases q : c = n
        · subst q
          omega
        · exact ih.1 (by omega) c (by omega)
      · intro e
        have := ih.2 (fun c hc => e c (by omega))
        have := e n (by omega)
        omega
  unfold op
  refine cB_of ?_
  rw [decide_eq_true_eq, all (nC T)]
  constructor
  · intro e c d hc hd
    exact (ful c).1 (e c hc) d hd
  · intro e c hc
    exact (ful c).2 (fun d hd => e c d hc hd)
/-- the first least of the sets below b -/
def BL (P : Nat → Bool) (S : Nat → Nat) (b : Nat) (o : Option Nat) : Prop := (∀ m, o = some m → m < b ∧ P m = true ∧ (∀ s, s < b → P s = true → S m ≤ S s) ∧ ∀ s, s < m → P s = true → S m < S s) ∧ (o = none → ∀ s, s < b → P s = false)
theorem BL_end {P : Nat → Bool} {S : Nat → Nat} {n : Nat} {o : Option Nat} (h : BL P S n o) : bw P S n = o := by
  unfold bw
  cases o with
  | none =>
    rw [lw_none]
    intro b q
    have := h.2 rfl b q.1
    rw [this] at q
    cases q.2.1
  | some m =>
    obtain ⟨h1, h2, h3, h4⟩ := h.1 m rfl
    rw [lw_some]
    refine ⟨⟨h1, h2, h3⟩, fun b hb q => ?_⟩
    have k1 := h4 b hb q.2.1
    have k2 := q.2.2 m h1 h2
    omega
theorem BL_skip {P : Nat → Bool} {S : Nat → Nat} {b : Nat} {o : Option Nat} (h : BL P S b o) (hb : ¬ (P b = true ∧ ∀ m, o = some m → S b < S m)) : BL P S (b + 1) o := by
  refine ⟨fun m hm => ?_, fun ho s hs => ?_⟩
  · obtain ⟨h1, h2, h3, h4⟩ := h.1 m hm
    refine ⟨by omega, h2, fun s hs q => ?_, h4⟩
    by_cases c : s = b
    · subst c
      apply Classical.byContradiction
      intro z
      refine hb ⟨q, fun m2 e => ?_⟩
      rw [hm] at e
      cases e
      omega
    · exact h3 s (by omega) q
  · by_cases c : s = b
    · subst c
      cases q : P s with
      | false => rfl
      | true => exact absurd ⟨q, fun m e => by rw [ho] at e; cases e⟩ hb
    · exact h.2 ho s (by omega)
theorem BL_take {P : Nat → Bool} {S : Nat → Nat} {b : Nat} {o : Option Nat} (h : BL P S b o) (h1 : P b = true) (h2 : ∀ m, o = some m → S b < S m) : BL P S (b + 1) (some b) := by
  refine ⟨fun m hm => ?_, fun z => by cases z⟩
  cases hm
  have low : ∀ s, s < b → P s = true → S b < S s := by
    intro s hs q
    cases o with
    | none => rw [h.2 rfl s hs] at q; cases q
    | some m =>
      have := h2 m rfl
      have := (h.1 m rfl).2.2.1 s hs q
      omega
  refine ⟨by omega, h1, fun s hs q => ?_, low⟩
  by_cases c : s = b
  · rw [c]
    exact Nat.le_refl _
  · exact Nat.le_of_lt (low s (by omega) q)
