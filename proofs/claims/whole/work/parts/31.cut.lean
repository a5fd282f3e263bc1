/-! SETS THAT NOBODY LEAVES -/
theorem l_of {z : Int} (h : -2147483648 ≤ z ∧ z < 2147483648) : (Int32.ofInt z).toInt64 = Int64.ofInt z := by
  rw [← Int64.ofInt_int32ToInt, Int32.toInt_ofInt_of_le h.1 h.2]
theorem bt_of {m j : Nat} (h : m < 2147483648) : bt (Int64.ofInt m) j = m.testBit j := by
  rw [bt_n64, n64_of (by omega)]
/-- without its lowest bit -/
theorem nat_rest {m i j : Nat} (h : m < 2147483648) (h1 : m.testBit i = true) (h2 : ∀ j, j < i → m.testBit j = false) : (m &&& (m - 1)).testBit j = (m.testBit j && decide (j ≠ i)) := by
  have hl : lo (Int64.ofInt m) i := ⟨by rw [bt_of h]; exact h1, fun j hj => by rw [bt_of h]; exact h2 j hj⟩
  have hp : 0 < m := by
    apply Nat.pos_of_ne_zero
    intro e
    rw [e, Nat.zero_testBit] at h1
    cases h1
  have := bt_rest (j := j) hl
  rw [bt_of h, bt_n64, n64_and, n64_of (by omega), n64_sub, n64_of (by omega)] at this
  · exact this
  · rw [n64_of (by omega)]
    exact hp
theorem low_of32 {m i : Nat} (h : m < 2147483648) (h1 : m.testBit i = true) (h2 : ∀ j, j < i → m.testBit j = false) : low (Int32.ofInt m).toInt64 = Int32.ofInt i := by
  rw [l_of (by omega)]
  exact low_of ⟨by rw [bt_of h]; exact h1, fun j hj => by rw [bt_of h]; exact h2 j hj⟩
theorem nat_lo {m : Nat} : ∀ n, m.testBit n = true → ∃ i, m.testBit i = true ∧ ∀ j, j < i → m.testBit j = false := by
  intro n
  induction n using Nat.strongRecOn with
  | ind n ih =>
    intro hn
    by_cases h : ∃ j, j < n ∧ m.testBit j = true
    · obtain ⟨j, h1, h2⟩ := h
      exact ih j h1 h2
    · refine ⟨n, hn, fun j hj => ?_⟩
      cases e : m.testBit j with
      | false => rfl
      | true => exact absurd ⟨j, hj, e⟩ h
theorem nat_ne0 {m : Nat} (h : m ≠ 0) : ∃ j, m.testBit j = true := Nat.exists_testBit_of_ne_zero h
noncomputable def clo (T : Tw) (R : Nat → Nat → Bool) (c d : Nat) : Bool := cB (rt (rcB T R) c d)
theorem rc_lt {T : Tw} {R : Nat → Nat → Bool} (hw : wf T) (hR : ∀ a b, R a b = true → isA T a = true ∧ isA T b = true) {c d : Nat} (hc : c < nC T) (h : rcB T R c d = true) : d < nC T := by
  rcases cB_iff.1 h with h | ⟨a, b, h1, h2, h3, h4⟩
  · rw [h]
    exact hc
  · rw [← h4]
    exact (wf_bg hw (isA_lt (rt_A hR h1 h3))).2.1
theorem u_clo {σ : zS} {t q c : Nat} {T : Tw} {R : Nat → Nat → Bool} {Q : zQ} (h : CT σ t T) (hw : wf T) (hS : CS σ t T) (hd : gD σ q = 2) (hn : gN σ q = 48) (hR : NX (gB σ q) T R) (hc : c < nC T) (hQ : Q (.inl (some (.int (Int32.ofInt (ms (clo T R c) (nC T)))))) (hOf σ)) : zW zP 91 [.ref t, .ref q, .int (Int32.ofInt c)] (hOf σ) Q := by
  have ht := CT_t h
  have h16 := hw.1
  have p16 : (2 : Nat) ^ nC T ≤ 65536 := Nat.pow_le_pow_right (n := 2) (by omega) h16
  rw [zWE]
  simp only [zx_iconst, zx_bipush, zx_sipush, zx_lconst, zx_ldc, zx_ldcS, zx_ldc_w, zx_ldc2_w, zx_iload_n, zx_iload, zx_lload_n, zx_lload, zx_aload_n, zx_aload, zx_istore_n, zx_istore, zx_lstore_n, zx_lstore, zx_astore_n, zx_astore, zx_iinc, zx_iadd, zx_isub, zx_imul, zx_iand, zx_ior, zx_ixor, zx_ishl, zx_ishr, zx_iushr, zx_idiv, zx_irem, zx_ineg, zx_ladd, zx_lsub, zx_land, zx_lor, zx_lxor, zx_lneg, zx_lshl, zx_lushr, zx_i2l, zx_l2i, zx_lcmp, zx_dup, zx_dup2, zx_pop, zx_goto, zx_if_eq, zx_if_ne, zx_if_lt, zx_if_ge, zx_if_gt, zx_if_le, zx_icmp_eq, zx_icmp_ne, zx_icmp_lt, zx_icmp_ge, zx_icmp_gt, zx_icmp_le, zx_getfield, zx_putfield, zx_iaload, zx_laload, zx_aaload, zx_iastore, zx_lastore, zx_arraylength, zx_ireturn, zx_lreturn, zx_areturn, zx_return, zx_athrow, zx_static0, zx_static1, zx_virt1, zx_static2, zx_virt2, zx_static3, zx_virt3, zx_static4, zx_virt4, zx_static5, zx_virt5, zx_static6, zx_virt6, zx_static7, zx_virt7, zx_cpI, zx_cpL, ↓cpI, ↓cpL, zx_slen, zx_schr, zx_tsw, zx_spec3, new_X, zx_new1, zrun_nil, zrun_cons, ↓zgi_h, ↓zgi_n, ↓zgl_h, ↓zgl_n, ↓zgr_h, ↓zgr_n, zset1, zset2, zins_nil, zins_c, f3, cat_i, cat_l, cat_r, List.filter_cons, List.filter_nil, Bool.false_eq_true, l_of0, lv_args, Nat.reduceBEq, Nat.reduceAdd, Nat.reduceLeDiff, Nat.reduceLT, Bool.not_true, Bool.not_false, Bool.and_true, Bool.true_and, Bool.and_false, Bool.false_and, Nat.reduceEqDiff, reduceIte, List.contains_cons, List.contains_nil, Bool.or_false, Bool.or_true, Bool.false_or, Bool.true_or, Fin.isValue, Fin.val_zero, Fin.val_one, Fin.val_two, Fin.reduceFinMk, Option.toList_some, Option.toList_none, List.nil_append, List.cons_append, zwt_nil, zwt_i, zwt_l, zwt_r, zthr_nil, List.isEmpty_nil, zcE, ↓ar_k, lgc0, true_and, and_true, true_implies, implies_true, false_implies, forall_const, i_len, ob_0, ob_1, ↓bI_01, bI_0, not_true_eq_false, not_false_eq_true, Bool.not_eq_false, Bool.not_eq_true, ia_add, ia_sub, ia_mul, ia_neg, ↓ldI, ↓ldL, zaI_c, zaL_c, ↓zlen_I, ↓zlen_L, ↓stI, ↓stL, gD_sI, gN_sI, gI_sI, gJ_sI, gR_sI, gA_sI, gB_sI, gT_sI, gD_sJ, gN_sJ, gI_sJ, gJ_sJ, gR_sJ, gA_sJ, gB_sJ, gT_sJ, gD_sR, gN_sR, gI_sR, gJ_sR, gR_sR, gA_sR, gB_sR, gT_sR, gD_sA, gN_sA, gI_sA, gJ_sA, gR_sA, gA_sA, gB_sA, gT_sA, gD_sB, gN_sB, gI_sB, gJ_sB, gR_sB, gA_sB, gB_sB, gT_sB, e_has, e_bA, e_mn, e_mx, e_pcI, e_pcL, e_low, zml_91, zg91_0, zb91_0, zb91_10, zg91_66, zb91_66, zmc_80, zms_80, zow_80, zhd_80, zmc_42, zms_42, zow_42, zhd_42, zmc_91, zms_91, zow_91, zhd_91, show (Int8.ofInt 16).toInt32 = Int32.ofInt 16 from rfl, show ztg 14 52 = 66 from rfl, show ztg 19 47 = 66 from rfl, show ztg 63 (-53) = 10 from rfl, LTown_g (CT_L h), LTown_d (CT_L h), LTown_r6 (CT_L h), LTown_k6 (CT_L h), LTown_n6 (CT_L h), LTown_r7 (CT_L h), LTown_k7 (CT_L h), LTown_n7 (CT_L h), LTown_r8 (CT_L h), LTown_k8 (CT_L h), LTown_n8 (CT_L h), LTown_r9 (CT_L h), LTown_k9 (CT_L h), LTown_n9 (CT_L h), LTown_r10 (CT_L h), LTown_k10 (CT_L h), LTown_n10 (CT_L h), LTown_r11 (CT_L h), LTown_k11 (CT_L h), LTown_n11 (CT_L h), LTown_r12 (CT_L h), LTown_k12 (CT_L h), LTown_n12 (CT_L h), LTown_r13 (CT_L h), LTown_k13 (CT_L h), LTown_n13 (CT_L h), LTown_r14 (CT_L h), LTown_k14 (CT_L h), LTown_n14 (CT_L h), LTown_r15 (CT_L h), LTown_k15 (CT_L h), LTown_n15 (CT_L h), LTown_r16 (CT_L h), LTown_k16 (CT_L h), LTown_n16 (CT_L h), LTown_r17 (CT_L h), LTown_k17 (CT_L h), LTown_n17 (CT_L h), LTown_r18 (CT_L h), LTown_k18 (CT_L h), LTown_n18 (CT_L h)]
  rw [i_1shl (by omega)]
  have key : ∀ i : Nat, i ≤ 16 → ∀ se ah : Nat, se < 2 ^ nC T → ah < 2 ^ nC T → se.testBit c = true → (∀ j, ah.testBit j = true → se.testBit j = true) → (∀ d, se.testBit d = true → rt (rcB T R) c d) → (∀ a b, se.testBit a = true → ah.testBit a = false → rcB T R a b = true → se.testBit b = true) → cp se.testBit 16 = cp ah.testBit 16 + i → zfp zP (zcall zP 91) 91 Q 10 [(0, .ref t), (1, .ref q), (3, .int (Int32.ofInt se)), (4, .int (Int32.ofInt ah)), (5, .int (Int32.ofInt i))] [] (hOf σ) 0 0 := by
    refine bk 16 ?_
    intro i hi ih se ah g1 g2 h1 h2 h4 h5 h6
    have lt16 : ∀ m j : Nat, m < 2 ^ nC T → m.testBit j = true → j < nC T := by
      intro m j hm hj
      apply Classical.byContradiction
      intro hn
      have : m < 2 ^ j := Nat.lt_of_lt_of_le hm (Nat.pow_le_pow_right (by omega) (by omega))
      rw [Nat.testBit_lt_two_pow this] at hj
      cases hj
    have fin : ah = 0 → Q (.inl (some (.int (Int32.ofInt se)))) (hOf σ) := by
      intro h0
      have : se = ms (clo T R c) (nC T) := by
        refine ms_of (fun j => ?_)
        have e : se.testBit j = clo T R c j := by
          refine cB_of ⟨h4 j, fun z => ?_⟩
          refine rt_closed (p := fun b => se.testBit b = true) (fun a b ha hab => h5 a b ha ?_ hab) h1 z
          rw [h0, Nat.zero_testBit]
        rw [← e]
        by_cases hj : j < nC T
        · rw [decide_eq_true hj, Bool.true_and]
        · rw [decide_eq_false hj, Bool.false_and]
          cases e2 : se.testBit j with
          | false => rfl
          | true => exact absurd (lt16 se j g1 e2) hj
      rw [this]
      exact hQ
    rw [zg91_10]
    simp only [zx_iconst, zx_bipush, zx_sipush, zx_lconst, zx_ldc, zx_ldcS, zx_ldc_w, zx_ldc2_w, zx_iload_n, zx_iload, zx_lload_n, zx_lload, zx_aload_n, zx_aload, zx_istore_n, zx_istore, zx_lstore_n, zx_lstore, zx_astore_n, zx_astore, zx_iinc, zx_iadd, zx_isub, zx_imul, zx_iand, zx_ior, zx_ixor, zx_ishl, zx_ishr, zx_iushr, zx_idiv, zx_irem, zx_ineg, zx_ladd, zx_lsub, zx_land, zx_lor, zx_lxor, zx_lneg, zx_lshl, zx_lushr, zx_i2l, zx_l2i, zx_lcmp, zx_dup, zx_dup2, zx_pop, zx_goto, zx_if_eq, zx_if_ne, zx_if_lt, zx_if_ge, zx_if_gt, zx_if_le, zx_icmp_eq, zx_icmp_ne, zx_icmp_lt, zx_icmp_ge, zx_icmp_gt, zx_icmp_le, zx_getfield, zx_putfield, zx_iaload, zx_laload, zx_aaload, zx_iastore, zx_lastore, zx_arraylength, zx_ireturn, zx_lreturn, zx_areturn, zx_return, zx_athrow, zx_static0, zx_static1, zx_virt1, zx_static2, zx_virt2, zx_static3, zx_virt3, zx_static4, zx_virt4, zx_static5, zx_virt5, zx_static6, zx_virt6, zx_static7, zx_virt7, zx_cpI, zx_cpL, ↓cpI, ↓cpL, zx_slen, zx_schr, zx_tsw, zx_spec3, new_X, zx_new1, zrun_nil, zrun_cons, ↓zgi_h, ↓zgi_n, ↓zgl_h, ↓zgl_n, ↓zgr_h, ↓zgr_n, zset1, zset2, zins_nil, zins_c, f3, cat_i, cat_l, cat_r, List.filter_cons, List.filter_nil, Bool.false_eq_true, l_of0, lv_args, Nat.reduceBEq, Nat.reduceAdd, Nat.reduceLeDiff, Nat.reduceLT, Bool.not_true, Bool.not_false, Bool.and_true, Bool.true_and, Bool.and_false, Bool.false_and, Nat.reduceEqDiff, reduceIte, List.contains_cons, List.contains_nil, Bool.or_false, Bool.or_true, Bool.false_or, Bool.true_or, Fin.isValue, Fin.val_zero, Fin.val_one, Fin.val_two, Fin.reduceFinMk, Option.toList_some, Option.toList_none, List.nil_append, List.cons_append, zwt_nil, zwt_i, zwt_l, zwt_r, zthr_nil, List.isEmpty_nil, zcE, ↓ar_k, lgc0, true_and, and_true, true_implies, implies_true, false_implies, forall_const, i_len, ob_0, ob_1, ↓bI_01, bI_0, not_true_eq_false, not_false_eq_true, Bool.not_eq_false, Bool.not_eq_true, ia_add, ia_sub, ia_mul, ia_neg, ↓ldI, ↓ldL, zaI_c, zaL_c, ↓zlen_I, ↓zlen_L, ↓stI, ↓stL, gD_sI, gN_sI, gI_sI, gJ_sI, gR_sI, gA_sI, gB_sI, gT_sI, gD_sJ, gN_sJ, gI_sJ, gJ_sJ, gR_sJ, gA_sJ, gB_sJ, gT_sJ, gD_sR, gN_sR, gI_sR, gJ_sR, gR_sR, gA_sR, gB_sR, gT_sR, gD_sA, gN_sA, gI_sA, gJ_sA, gR_sA, gA_sA, gB_sA, gT_sA, gD_sB, gN_sB, gI_sB, gJ_sB, gR_sB, gA_sB, gB_sB, gT_sB, e_has, e_bA, e_mn, e_mx, e_pcI, e_pcL, e_low, zml_91, zg91_0, zb91_0, zb91_10, zg91_66, zb91_66, zmc_80, zms_80, zow_80, zhd_80, zmc_42, zms_42, zow_42, zhd_42, zmc_91, zms_91, zow_91, zhd_91, show (Int8.ofInt 16).toInt32 = Int32.ofInt 16 from rfl, show ztg 14 52 = 66 from rfl, show ztg 19 47 = 66 from rfl, show ztg 63 (-53) = 10 from rfl, LTown_g (CT_L h), LTown_d (CT_L h), LTown_r6 (CT_L h), LTown_k6 (CT_L h), LTown_n6 (CT_L h), LTown_r7 (CT_L h), LTown_k7 (CT_L h), LTown_n7 (CT_L h), LTown_r8 (CT_L h), LTown_k8 (CT_L h), LTown_n8 (CT_L h), LTown_r9 (CT_L h), LTown_k9 (CT_L h), LTown_n9 (CT_L h), LTown_r10 (CT_L h), LTown_k10 (CT_L h), LTown_n10 (CT_L h), LTown_r11 (CT_L h), LTown_k11 (CT_L h), LTown_n11 (CT_L h), LTown_r12 (CT_L h), LTown_k12 (CT_L h), LTown_n12 (CT_L h), LTown_r13 (CT_L h), LTown_k13 (CT_L h), LTown_n13 (CT_L h), LTown_r14 (CT_L h), LTown_k14 (CT_L h), LTown_n14 (CT_L h), LTown_r15 (CT_L h), LTown_k15 (CT_L h), LTown_n15 (CT_L h), LTown_r16 (CT_L h), LTown_k16 (CT_L h), LTown_n16 (CT_L h), LTown_r17 (CT_L h), LTown_k17 (CT_L h), LTown_n17 (CT_L h), LTown_r18 (CT_L h), LTown_k18 (CT_L h), LTown_n18 (CT_L h)]
    try simp (disch := omega) only [ii_lt, ii_le, ii_eq, ii_eq0, ii_lt0, ii_0lt, ii_le0, ii_0le, i_inT, i_natN, i_nat, ia_div, ia_rem, hs_ofI, i_1shl, i_or, i_bit, true_and, and_true, not_true_eq_false, not_false_eq_true, true_implies, false_implies, implies_true, Int.reduceLT, Int.reduceLE, Int.reduceEq, Int.reduceNeg, Int.toNat_natCast, Int.reduceToNat, Nat.reduceLeDiff, Nat.reduceAdd, tn_2, tn_2p, tn_48, tn_48r, tn_3, tn_3p, tn_3q, tn_p1, tn_d2, tn_12]
    refine ⟨fun hge => ?_, fun hlt => ⟨fun h0 => ?_, fun hne => ?_⟩⟩
    · apply fin
      apply Classical.byContradiction
      intro hne
      obtain ⟨j, hj⟩ := nat_ne0 hne
      have k1 := cp_pos 16 j (by have := lt16 ah j g2 hj; omega) hj
      have k2 := cp_le (p := se.testBit) 16
      omega
    · exact fin (by omega)
    · obtain ⟨j0, hj0⟩ := nat_ne0 (m := ah) (by omega)
      obtain ⟨k, hk1, hk2⟩ := nat_lo j0 hj0
      have hkn := lt16 ah k g2 hk1
      rw [low_of32 (by omega) hk1 hk2]
      refine u_from h hw hS hd hn hR hkn ?_
      simp only [zx_iconst, zx_bipush, zx_sipush, zx_lconst, zx_ldc, zx_ldcS, zx_ldc_w, zx_ldc2_w, zx_iload_n, zx_iload, zx_lload_n, zx_lload, zx_aload_n, zx_aload, zx_istore_n, zx_istore, zx_lstore_n, zx_lstore, zx_astore_n, zx_astore, zx_iinc, zx_iadd, zx_isub, zx_imul, zx_iand, zx_ior, zx_ixor, zx_ishl, zx_ishr, zx_iushr, zx_idiv, zx_irem, zx_ineg, zx_ladd, zx_lsub, zx_land, zx_lor, zx_lxor, zx_lneg, zx_lshl, zx_lushr, zx_i2l, zx_l2i, zx_lcmp, zx_dup, zx_dup2, zx_pop, zx_goto, zx_if_eq, zx_if_ne, zx_if_lt, zx_if_ge, zx_if_gt, zx_if_le, zx_icmp_eq, zx_icmp_ne, zx_icmp_lt, zx_icmp_ge, zx_icmp_gt, zx_icmp_le, zx_getfield, zx_putfield, zx_iaload, zx_laload, zx_aaload, zx_iastore, zx_lastore, zx_arraylength, zx_ireturn, zx_lreturn, zx_areturn, zx_return, zx_athrow, zx_static0, zx_static1, zx_virt1, zx_static2, zx_virt2, zx_static3, zx_virt3, zx_static4, zx_virt4, zx_static5, zx_virt5, zx_static6, zx_virt6, zx_static7, zx_virt7, zx_cpI, zx_cpL, ↓cpI, ↓cpL, zx_slen, zx_schr, zx_tsw, zx_spec3, new_X, zx_new1, zrun_nil, zrun_cons, ↓zgi_h, ↓zgi_n, ↓zgl_h, ↓zgl_n, ↓zgr_h, ↓zgr_n, zset1, zset2, zins_nil, zins_c, f3, cat_i, cat_l, cat_r, List.filter_cons, List.filter_nil, Bool.false_eq_true, l_of0, lv_args, Nat.reduceBEq, Nat.reduceAdd, Nat.reduceLeDiff, Nat.reduceLT, Bool.not_true, Bool.not_false, Bool.and_true, Bool.true_and, Bool.and_false, Bool.false_and, Nat.reduceEqDiff, reduceIte, List.contains_cons, List.contains_nil, Bool.or_false, Bool.or_true, Bool.false_or, Bool.true_or, Fin.isValue, Fin.val_zero, Fin.val_one, Fin.val_two, Fin.reduceFinMk, Option.toList_some, Option.toList_none, List.nil_append, List.cons_append, zwt_nil, zwt_i, zwt_l, zwt_r, zthr_nil, List.isEmpty_nil, zcE, ↓ar_k, lgc0, true_and, and_true, true_implies, implies_true, false_implies, forall_const, i_len, ob_0, ob_1, ↓bI_01, bI_0, not_true_eq_false, not_false_eq_true, Bool.not_eq_false, Bool.not_eq_true, ia_add, ia_sub, ia_mul, ia_neg, ↓ldI, ↓ldL, zaI_c, zaL_c, ↓zlen_I, ↓zlen_L, ↓stI, ↓stL, gD_sI, gN_sI, gI_sI, gJ_sI, gR_sI, gA_sI, gB_sI, gT_sI, gD_sJ, gN_sJ, gI_sJ, gJ_sJ, gR_sJ, gA_sJ, gB_sJ, gT_sJ, gD_sR, gN_sR, gI_sR, gJ_sR, gR_sR, gA_sR, gB_sR, gT_sR, gD_sA, gN_sA, gI_sA, gJ_sA, gR_sA, gA_sA, gB_sA, gT_sA, gD_sB, gN_sB, gI_sB, gJ_sB, gR_sB, gA_sB, gB_sB, gT_sB, e_has, e_bA, e_mn, e_mx, e_pcI, e_pcL, e_low, zml_91, zg91_0, zb91_0, zb91_10, zg91_66, zb91_66, zmc_80, zms_80, zow_80, zhd_80, zmc_42, zms_42, zow_42, zhd_42, zmc_91, zms_91, zow_91, zhd_91, show (Int8.ofInt 16).toInt32 = Int32.ofInt 16 from rfl, show ztg 14 52 = 66 from rfl, show ztg 19 47 = 66 from rfl, show ztg 63 (-53) = 10 from rfl]
      have gl : ms (rcB T R k) (nC T) < 2 ^ nC T := ms_lt _
      have gb : ∀ j, (ms (rcB T R k) (nC T)).testBit j = rcB T R k j := by
        intro j
        rw [ms_bit]
        by_cases hj : j < nC T
        · rw [decide_eq_true hj, Bool.true_and]
        · rw [decide_eq_false hj, Bool.false_and]
          cases e2 : rcB T R k j with
          | false => rfl
          | true => exact absurd (rc_lt hw hR.2 hkn e2) hj
      generalize ms (rcB T R k) (nC T) = x at gl gb ⊢
      rw [i_andn, show (ah : Int) - 1 = ((ah - 1 : Nat) : Int) from by omega, i_and, i_or, i_or]
      have fr : ∀ j, (x ^^^ (x &&& se)).testBit j = (rcB T R k j && !se.testBit j) := by
        intro j
        rw [Nat.testBit_xor, Nat.testBit_and, gb]
        cases rcB T R k j <;> cases se.testBit j <;> rfl
      have frl : x ^^^ (x &&& se) < 2 ^ nC T := Nat.xor_lt_two_pow gl (Nat.and_lt_two_pow _ g1)
      generalize x ^^^ (x &&& se) = fs at fr frl ⊢
      have rs : ∀ j, (ah &&& (ah - 1)).testBit j = (ah.testBit j && decide (j ≠ k)) := fun j => nat_rest (by omega) hk1 hk2
      have rsl : ah &&& (ah - 1) < 2 ^ nC T := Nat.lt_of_le_of_lt Nat.and_le_left g2
      generalize ah &&& (ah - 1) = rest at rs rsl ⊢
      have hkr := h4 k (h2 k hk1)
      refine zjf rfl (ih (by omega) (se ||| fs) (rest ||| fs) (Nat.or_lt_two_pow g1 frl) (Nat.or_lt_two_pow rsl frl) ?_ ?_ ?_ ?_ ?_)
      · rw [Nat.testBit_or, h1, Bool.true_or]
      · intro j hj
        rw [Nat.testBit_or, rs, Bool.or_eq_true, Bool.and_eq_true] at hj
        rw [Nat.testBit_or]
        cases hj with
        | inl h => rw [h2 j h.1, Bool.true_or]
        | inr h => rw [h, Bool.or_true]
      · intro b hb
        rw [Nat.testBit_or, fr, Bool.or_eq_true, Bool.and_eq_true] at hb
        cases hb with
        | inl h => exact h4 b h
        | inr h => exact rt_trans hkr (rt_step h.1 rt_refl)
      · intro a b ha hna hab
        rw [Nat.testBit_or] at ha hna ⊢
        rw [Bool.or_eq_false_iff, rs] at hna
        by_cases e : a = k
        · subst e
          rw [fr, hab]
          cases se.testBit b <;> rfl
        · rw [hna.2, Bool.or_false] at ha
          have : ah.testBit a = false := by
            have := hna.1
            rw [decide_eq_true e, Bool.and_true] at this
            exact this
          rw [h5 a b ha this hab, Bool.true_or]
      · have c1 : cp (se ||| fs).testBit 16 = cp se.testBit 16 + cp fs.testBit 16 := by
          refine cp_or 16 (fun j _ => Nat.testBit_or ..) (fun j _ => ?_)
          rw [fr]
          cases se.testBit j <;> cases rcB T R k j <;> rfl
        have c2 : cp (rest ||| fs).testBit 16 = cp rest.testBit 16 + cp fs.testBit 16 := by
          refine cp_or 16 (fun j _ => Nat.testBit_or ..) (fun j _ => ?_)
          rw [rs, fr]
          cases e : ah.testBit j with
          | false => rfl
          | true =>
            rw [h2 j e]
            cases rcB T R k j <;> simp
        have c3 : cp ah.testBit 16 = cp rest.testBit 16 + 1 := cp_rem 16 (by omega) hk1 rs
        omega
  have hpc : (2 : Nat) ^ c < 2 ^ nC T := Nat.pow_lt_pow_right (by omega) hc
  refine zjf rfl (key 0 (by omega) (2 ^ c) (2 ^ c) hpc hpc ?_ (fun _ h => h) ?_ ?_ rfl)
  · rw [Nat.testBit_two_pow, decide_eq_true rfl]
  · intro d hd2
    rw [Nat.testBit_two_pow, decide_eq_true_eq] at hd2
    rw [hd2]
    exact rt_refl
  · intro a b h1 h2
    rw [h1] at h2
    cases h2
/-- fewer, or as many and less -/
def lss (a b : Nat) : Bool := decide (cn a 32 < cn b 32 ∨ (cn a 32 = cn b 32 ∧ a < b))
theorem e_lss {a b : Nat} {h : zH} {Q : zQ} (ha : a < 2147483648) (hb : b < 2147483648) : zW zP 92 [.int (Int32.ofInt a), .int (Int32.ofInt b)] h Q = Q (.inl (some (.int (bI (lss a b))))) h := by
  rw [zWE]
  simp only [zx_iconst, zx_bipush, zx_sipush, zx_lconst, zx_ldc, zx_ldcS, zx_ldc_w, zx_ldc2_w, zx_iload_n, zx_iload, zx_lload_n, zx_lload, zx_aload_n, zx_aload, zx_istore_n, zx_istore, zx_lstore_n, zx_lstore, zx_astore_n, zx_astore, zx_iinc, zx_iadd, zx_isub, zx_imul, zx_iand, zx_ior, zx_ixor, zx_ishl, zx_ishr, zx_iushr, zx_idiv, zx_irem, zx_ineg, zx_ladd, zx_lsub, zx_land, zx_lor, zx_lxor, zx_lneg, zx_lshl, zx_lushr, zx_i2l, zx_l2i, zx_lcmp, zx_dup, zx_dup2, zx_pop, zx_goto, zx_if_eq, zx_if_ne, zx_if_lt, zx_if_ge, zx_if_gt, zx_if_le, zx_icmp_eq, zx_icmp_ne, zx_icmp_lt, zx_icmp_ge, zx_icmp_gt, zx_icmp_le, zx_getfield, zx_putfield, zx_iaload, zx_laload, zx_aaload, zx_iastore, zx_lastore, zx_arraylength, zx_ireturn, zx_lreturn, zx_areturn, zx_return, zx_athrow, zx_static0, zx_static1, zx_virt1, zx_static2, zx_virt2, zx_static3, zx_virt3, zx_static4, zx_virt4, zx_static5, zx_virt5, zx_static6, zx_virt6, zx_static7, zx_virt7, zx_cpI, zx_cpL, ↓cpI, ↓cpL, zx_slen, zx_schr, zx_tsw, zx_spec3, new_X, zx_new1, zrun_nil, zrun_cons, ↓zgi_h, ↓zgi_n, ↓zgl_h, ↓zgl_n, ↓zgr_h, ↓zgr_n, zset1, zset2, zins_nil, zins_c, f3, cat_i, cat_l, cat_r, List.filter_cons, List.filter_nil, Bool.false_eq_true, l_of0, lv_args, Nat.reduceBEq, Nat.reduceAdd, Nat.reduceLeDiff, Nat.reduceLT, Bool.not_true, Bool.not_false, Bool.and_true, Bool.true_and, Bool.and_false, Bool.false_and, Nat.reduceEqDiff, reduceIte, List.contains_cons, List.contains_nil, Bool.or_false, Bool.or_true, Bool.false_or, Bool.true_or, Fin.isValue, Fin.val_zero, Fin.val_one, Fin.val_two, Fin.reduceFinMk, Option.toList_some, Option.toList_none, List.nil_append, List.cons_append, zwt_nil, zwt_i, zwt_l, zwt_r, zthr_nil, List.isEmpty_nil, zcE, ↓ar_k, lgc0, true_and, and_true, true_implies, implies_true, false_implies, forall_const, i_len, ob_0, ob_1, ↓bI_01, bI_0, not_true_eq_false, not_false_eq_true, Bool.not_eq_false, Bool.not_eq_true, ia_add, ia_sub, ia_mul, ia_neg, ↓ldI, ↓ldL, zaI_c, zaL_c, ↓zlen_I, ↓zlen_L, ↓stI, ↓stL, gD_sI, gN_sI, gI_sI, gJ_sI, gR_sI, gA_sI, gB_sI, gT_sI, gD_sJ, gN_sJ, gI_sJ, gJ_sJ, gR_sJ, gA_sJ, gB_sJ, gT_sJ, gD_sR, gN_sR, gI_sR, gJ_sR, gR_sR, gA_sR, gB_sR, gT_sR, gD_sA, gN_sA, gI_sA, gJ_sA, gR_sA, gA_sA, gB_sA, gT_sA, gD_sB, gN_sB, gI_sB, gJ_sB, gR_sB, gA_sB, gB_sB, gT_sB, e_has, e_bA, e_mn, e_mx, e_pcI, e_pcL, e_low, zml_92, zg92_0, zb92_0, zg92_25, zb92_25, zg92_29, zb92_29, zg92_30, zb92_30, zmc_59, zms_59, zow_59, zhd_59, zmc_92, zms_92, zow_92, zhd_92, show ztg 12 13 = 25 from rfl, show ztg 17 12 = 29 from rfl, show ztg 22 7 = 29 from rfl, show ztg 26 4 = 30 from rfl]
  have h1 := cn_le (x := a) 32
  have h2 := cn_le (x := b) 32
  simp only [pcI_eq, n32_of (show a < 4294967296 by omega), n32_of (show b < 4294967296 by omega)]
  try simp (disch := omega) only [ii_lt, ii_le, ii_eq, ii_eq0, ii_lt0, ii_0lt, ii_le0, ii_0le, i_inT, i_natN, i_nat, ia_div, ia_rem, hs_ofI, i_1shl, i_or, i_bit, true_and, and_true, not_true_eq_false, not_false_eq_true, true_implies, false_implies, implies_true, Int.reduceLT, Int.reduceLE, Int.reduceEq, Int.reduceNeg, Int.toNat_natCast, Int.reduceToNat, Nat.reduceLeDiff, Nat.reduceAdd, tn_2, tn_2p, tn_48, tn_48r, tn_3, tn_3p, tn_3q, tn_p1, tn_d2, tn_12]
  unfold lss
  simp only [brE, brN]
  (repeat' split) <;> first | exact q1 (decide_eq_true (by omega)) | exact q0 (decide_eq_false (by omega))
noncomputable def lcs (T : Tw) (R : Nat → Nat → Bool) : Nat → Nat
  | 0 => 0
  | n + 1 => if ms (clo T R n) (nC T) ≠ 2 ^ nC T - 1 ∧ (lcs T R n = 0 ∨ lss (ms (clo T R n) (nC T)) (lcs T R n) = true) then ms (clo T R n) (nC T) else lcs T R n
theorem lcs_lt {T : Tw} {R : Nat → Nat → Bool} : ∀ n, lcs T R n < 2 ^ nC T
  | 0 => Nat.two_pow_pos _
  | n + 1 => by
    show (if _ then _ else _) < _
    split
    · exact ms_lt _
    · exact lcs_lt n
theorem u_lcs {σ : zS} {t q : Nat} {T : Tw} {R : Nat → Nat → Bool} {Q : zQ} (h : CT σ t T) (hw : wf T) (hS : CS σ t T) (hd : gD σ q = 2) (hn : gN σ q = 48) (hR : NX (gB σ q) T R) (hQ : Q (.inl (some (.int (Int32.ofInt (lcs T R (nC T)))))) (hOf σ)) : zW zP 93 [.ref t, .ref q] (hOf σ) Q := by
  have ht := CT_t h
  have h16 := hw.1
  have p16 : (2 : Nat) ^ nC T ≤ 65536 := Nat.pow_le_pow_right (n := 2) (by omega) h16
  rw [zWE]
  simp only [zx_iconst, zx_bipush, zx_sipush, zx_lconst, zx_ldc, zx_ldcS, zx_ldc_w, zx_ldc2_w, zx_iload_n, zx_iload, zx_lload_n, zx_lload, zx_aload_n, zx_aload, zx_istore_n, zx_istore, zx_lstore_n, zx_lstore, zx_astore_n, zx_astore, zx_iinc, zx_iadd, zx_isub, zx_imul, zx_iand, zx_ior, zx_ixor, zx_ishl, zx_ishr, zx_iushr, zx_idiv, zx_irem, zx_ineg, zx_ladd, zx_lsub, zx_land, zx_lor, zx_lxor, zx_lneg, zx_lshl, zx_lushr, zx_i2l, zx_l2i, zx_lcmp, zx_dup, zx_dup2, zx_pop, zx_goto, zx_if_eq, zx_if_ne, zx_if_lt, zx_if_ge, zx_if_gt, zx_if_le, zx_icmp_eq, zx_icmp_ne, zx_icmp_lt, zx_icmp_ge, zx_icmp_gt, zx_icmp_le, zx_getfield, zx_putfield, zx_iaload, zx_laload, zx_aaload, zx_iastore, zx_lastore, zx_arraylength, zx_ireturn, zx_lreturn, zx_areturn, zx_return, zx_athrow, zx_static0, zx_static1, zx_virt1, zx_static2, zx_virt2, zx_static3, zx_virt3, zx_static4, zx_virt4, zx_static5, zx_virt5, zx_static6, zx_virt6, zx_static7, zx_virt7, zx_cpI, zx_cpL, ↓cpI, ↓cpL, zx_slen, zx_schr, zx_tsw, zx_spec3, new_X, zx_new1, zrun_nil, zrun_cons, ↓zgi_h, ↓zgi_n, ↓zgl_h, ↓zgl_n, ↓zgr_h, ↓zgr_n, zset1, zset2, zins_nil, zins_c, f3, cat_i, cat_l, cat_r, List.filter_cons, List.filter_nil, Bool.false_eq_true, l_of0, lv_args, Nat.reduceBEq, Nat.reduceAdd, Nat.reduceLeDiff, Nat.reduceLT, Bool.not_true, Bool.not_false, Bool.and_true, Bool.true_and, Bool.and_false, Bool.false_and, Nat.reduceEqDiff, reduceIte, List.contains_cons, List.contains_nil, Bool.or_false, Bool.or_true, Bool.false_or, Bool.true_or, Fin.isValue, Fin.val_zero, Fin.val_one, Fin.val_two, Fin.reduceFinMk, Option.toList_some, Option.toList_none, List.nil_append, List.cons_append, zwt_nil, zwt_i, zwt_l, zwt_r, zthr_nil, List.isEmpty_nil, zcE, ↓ar_k, lgc0, true_and, and_true, true_implies, implies_true, false_implies, forall_const, i_len, ob_0, ob_1, ↓bI_01, bI_0, not_true_eq_false, not_false_eq_true, Bool.not_eq_false, Bool.not_eq_true, ia_add, ia_sub, ia_mul, ia_neg, ↓ldI, ↓ldL, zaI_c, zaL_c, ↓zlen_I, ↓zlen_L, ↓stI, ↓stL, gD_sI, gN_sI, gI_sI, gJ_sI, gR_sI, gA_sI, gB_sI, gT_sI, gD_sJ, gN_sJ, gI_sJ, gJ_sJ, gR_sJ, gA_sJ, gB_sJ, gT_sJ, gD_sR, gN_sR, gI_sR, gJ_sR, gR_sR, gA_sR, gB_sR, gT_sR, gD_sA, gN_sA, gI_sA, gJ_sA, gR_sA, gA_sA, gB_sA, gT_sA, gD_sB, gN_sB, gI_sB, gJ_sB, gR_sB, gA_sB, gB_sB, gT_sB, e_has, e_bA, e_mn, e_mx, e_pcI, e_pcL, e_low, zml_93, zg93_0, zb93_0, zb93_14, zg93_51, zb93_51, zg93_54, zb93_54, zg93_60, zb93_60, zmc_91, zms_91, zow_91, zhd_91, zmc_92, zms_92, zow_92, zhd_92, zmc_93, zms_93, zow_93, zhd_93, ↓gf_8_0, show ztg 20 40 = 60 from rfl, show ztg 35 19 = 54 from rfl, show ztg 39 12 = 51 from rfl, show ztg 48 6 = 54 from rfl, show ztg 57 (-43) = 14 from rfl, LTown_g (CT_L h), LTown_d (CT_L h), LTown_r6 (CT_L h), LTown_k6 (CT_L h), LTown_n6 (CT_L h), LTown_r7 (CT_L h), LTown_k7 (CT_L h), LTown_n7 (CT_L h), LTown_r8 (CT_L h), LTown_k8 (CT_L h), LTown_n8 (CT_L h), LTown_r9 (CT_L h), LTown_k9 (CT_L h), LTown_n9 (CT_L h), LTown_r10 (CT_L h), LTown_k10 (CT_L h), LTown_n10 (CT_L h), LTown_r11 (CT_L h), LTown_k11 (CT_L h), LTown_n11 (CT_L h), LTown_r12 (CT_L h), LTown_k12 (CT_L h), LTown_n12 (CT_L h), LTown_r13 (CT_L h), LTown_k13 (CT_L h), LTown_n13 (CT_L h), LTown_r14 (CT_L h), LTown_k14 (CT_L h), LTown_n14 (CT_L h), LTown_r15 (CT_L h), LTown_k15 (CT_L h), LTown_n15 (CT_L h), LTown_r16 (CT_L h), LTown_k16 (CT_L h), LTown_n16 (CT_L h), LTown_r17 (CT_L h), LTown_k17 (CT_L h), LTown_n17 (CT_L h), LTown_r18 (CT_L h), LTown_k18 (CT_L h), LTown_n18 (CT_L h), CT_0 h]
  try simp (disch := omega) only [ii_lt, ii_le, ii_eq, ii_eq0, ii_lt0, ii_0lt, ii_le0, ii_0le, i_inT, i_natN, i_nat, ia_div, ia_rem, hs_ofI, i_1shl, i_or, i_bit, true_and, and_true, not_true_eq_false, not_false_eq_true, true_implies, false_implies, implies_true, Int.reduceLT, Int.reduceLE, Int.reduceEq, Int.reduceNeg, Int.toNat_natCast, Int.reduceToNat, Nat.reduceLeDiff, Nat.reduceAdd, tn_2, tn_2p, tn_48, tn_48r, tn_3, tn_3p, tn_3q, tn_p1, tn_d2, tn_12]
  rw [ia_sub, show ((2 ^ nC T : Nat) : Int) - 1 = ((2 ^ nC T - 1 : Nat) : Int) from by have := Nat.two_pow_pos (nC T); omega]
  have key : ∀ i : Nat, i ≤ nC T → zfp zP (zcall zP 93) 93 Q 14 [(0, .ref t), (1, .ref q), (2, .int (Int32.ofInt ((2 ^ nC T - 1 : Nat) : Int))), (3, .int (Int32.ofInt (lcs T R i))), (4, .int (Int32.ofInt i))] [] (hOf σ) 0 0 := by
    refine bk _ ?_
    intro i hi ih
    have hl := lcs_lt (T := T) (R := R) i
    rw [zg93_14]
    simp only [zx_iconst, zx_bipush, zx_sipush, zx_lconst, zx_ldc, zx_ldcS, zx_ldc_w, zx_ldc2_w, zx_iload_n, zx_iload, zx_lload_n, zx_lload, zx_aload_n, zx_aload, zx_istore_n, zx_istore, zx_lstore_n, zx_lstore, zx_astore_n, zx_astore, zx_iinc, zx_iadd, zx_isub, zx_imul, zx_iand, zx_ior, zx_ixor, zx_ishl, zx_ishr, zx_iushr, zx_idiv, zx_irem, zx_ineg, zx_ladd, zx_lsub, zx_land, zx_lor, zx_lxor, zx_lneg, zx_lshl, zx_lushr, zx_i2l, zx_l2i, zx_lcmp, zx_dup, zx_dup2, zx_pop, zx_goto, zx_if_eq, zx_if_ne, zx_if_lt, zx_if_ge, zx_if_gt, zx_if_le, zx_icmp_eq, zx_icmp_ne, zx_icmp_lt, zx_icmp_ge, zx_icmp_gt, zx_icmp_le, zx_getfield, zx_putfield, zx_iaload, zx_laload, zx_aaload, zx_iastore, zx_lastore, zx_arraylength, zx_ireturn, zx_lreturn, zx_areturn, zx_return, zx_athrow, zx_static0, zx_static1, zx_virt1, zx_static2, zx_virt2, zx_static3, zx_virt3, zx_static4, zx_virt4, zx_static5, zx_virt5, zx_static6, zx_virt6, zx_static7, zx_virt7, zx_cpI, zx_cpL, ↓cpI, ↓cpL, zx_slen, zx_schr, zx_tsw, zx_spec3, new_X, zx_new1, zrun_nil, zrun_cons, ↓zgi_h, ↓zgi_n, ↓zgl_h, ↓zgl_n, ↓zgr_h, ↓zgr_n, zset1, zset2, zins_nil, zins_c, f3, cat_i, cat_l, cat_r, List.filter_cons, List.filter_nil, Bool.false_eq_true, l_of0, lv_args, Nat.reduceBEq, Nat.reduceAdd, Nat.reduceLeDiff, Nat.reduceLT, Bool.not_true, Bool.not_false, Bool.and_true, Bool.true_and, Bool.and_false, Bool.false_and, Nat.reduceEqDiff, reduceIte, List.contains_cons, List.contains_nil, Bool.or_false, Bool.or_true, Bool.false_or, Bool.true_or, Fin.isValue, Fin.val_zero, Fin.val_one, Fin.val_two, Fin.reduceFinMk, Option.toList_some, Option.toList_none, List.nil_append, List.cons_append, zwt_nil, zwt_i, zwt_l, zwt_r, zthr_nil, List.isEmpty_nil, zcE, ↓ar_k, lgc0, true_and, and_true, true_implies, implies_true, false_implies, forall_const, i_len, ob_0, ob_1, ↓bI_01, bI_0, not_true_eq_false, not_false_eq_true, Bool.not_eq_false, Bool.not_eq_true, ia_add, ia_sub, ia_mul, ia_neg, ↓ldI, ↓ldL, zaI_c, zaL_c, ↓zlen_I, ↓zlen_L, ↓stI, ↓stL, gD_sI, gN_sI, gI_sI, gJ_sI, gR_sI, gA_sI, gB_sI, gT_sI, gD_sJ, gN_sJ, gI_sJ, gJ_sJ, gR_sJ, gA_sJ, gB_sJ, gT_sJ, gD_sR, gN_sR, gI_sR, gJ_sR, gR_sR, gA_sR, gB_sR, gT_sR, gD_sA, gN_sA, gI_sA, gJ_sA, gR_sA, gA_sA, gB_sA, gT_sA, gD_sB, gN_sB, gI_sB, gJ_sB, gR_sB, gA_sB, gB_sB, gT_sB, e_has, e_bA, e_mn, e_mx, e_pcI, e_pcL, e_low, zml_93, zg93_0, zb93_0, zb93_14, zg93_51, zb93_51, zg93_54, zb93_54, zg93_60, zb93_60, zmc_91, zms_91, zow_91, zhd_91, zmc_92, zms_92, zow_92, zhd_92, zmc_93, zms_93, zow_93, zhd_93, ↓gf_8_0, show ztg 20 40 = 60 from rfl, show ztg 35 19 = 54 from rfl, show ztg 39 12 = 51 from rfl, show ztg 48 6 = 54 from rfl, show ztg 57 (-43) = 14 from rfl, LTown_g (CT_L h), LTown_d (CT_L h), LTown_r6 (CT_L h), LTown_k6 (CT_L h), LTown_n6 (CT_L h), LTown_r7 (CT_L h), LTown_k7 (CT_L h), LTown_n7 (CT_L h), LTown_r8 (CT_L h), LTown_k8 (CT_L h), LTown_n8 (CT_L h), LTown_r9 (CT_L h), LTown_k9 (CT_L h), LTown_n9 (CT_L h), LTown_r10 (CT_L h), LTown_k10 (CT_L h), LTown_n10 (CT_L h), LTown_r11 (CT_L h), LTown_k11 (CT_L h), LTown_n11 (CT_L h), LTown_r12 (CT_L h), LTown_k12 (CT_L h), LTown_n12 (CT_L h), LTown_r13 (CT_L h), LTown_k13 (CT_L h), LTown_n13 (CT_L h), LTown_r14 (CT_L h), LTown_k14 (CT_L h), LTown_n14 (CT_L h), LTown_r15 (CT_L h), LTown_k15 (CT_L h), LTown_n15 (CT_L h), LTown_r16 (CT_L h), LTown_k16 (CT_L h), LTown_n16 (CT_L h), LTown_r17 (CT_L h), LTown_k17 (CT_L h), LTown_n17 (CT_L h), LTown_r18 (CT_L h), LTown_k18 (CT_L h), LTown_n18 (CT_L h), CT_0 h]
    try simp (disch := omega) only [ii_lt, ii_le, ii_eq, ii_eq0, ii_lt0, ii_0lt, ii_le0, ii_0le, i_inT, i_natN, i_nat, ia_div, ia_rem, hs_ofI, i_1shl, i_or, i_bit, true_and, and_true, not_true_eq_false, not_false_eq_true, true_implies, false_implies, implies_true, Int.reduceLT, Int.reduceLE, Int.reduceEq, Int.reduceNeg, Int.toNat_natCast, Int.reduceToNat, Nat.reduceLeDiff, Nat.reduceAdd, tn_2, tn_2p, tn_48, tn_48r, tn_3, tn_3p, tn_3q, tn_p1, tn_d2, tn_12]
    refine ⟨fun hge => ?_, fun hlt => ?_⟩
    · rw [show i = nC T from by omega]
      exact hQ
    · refine u_clo h hw hS hd hn hR (by omega) ?_
      have hm : ms (clo T R i) (nC T) < 2 ^ nC T := ms_lt _
      have ih := ih (by omega)
      have hst : lcs T R (i + 1) = if ms (clo T R i) (nC T) ≠ 2 ^ nC T - 1 ∧ (lcs T R i = 0 ∨ lss (ms (clo T R i) (nC T)) (lcs T R i) = true) then ms (clo T R i) (nC T) else lcs T R i := rfl
      rw [hst] at ih
      generalize ms (clo T R i) (nC T) = x at hm ih ⊢
      simp only [zx_iconst, zx_bipush, zx_sipush, zx_lconst, zx_ldc, zx_ldcS, zx_ldc_w, zx_ldc2_w, zx_iload_n, zx_iload, zx_lload_n, zx_lload, zx_aload_n, zx_aload, zx_istore_n, zx_istore, zx_lstore_n, zx_lstore, zx_astore_n, zx_astore, zx_iinc, zx_iadd, zx_isub, zx_imul, zx_iand, zx_ior, zx_ixor, zx_ishl, zx_ishr, zx_iushr, zx_idiv, zx_irem, zx_ineg, zx_ladd, zx_lsub, zx_land, zx_lor, zx_lxor, zx_lneg, zx_lshl, zx_lushr, zx_i2l, zx_l2i, zx_lcmp, zx_dup, zx_dup2, zx_pop, zx_goto, zx_if_eq, zx_if_ne, zx_if_lt, zx_if_ge, zx_if_gt, zx_if_le, zx_icmp_eq, zx_icmp_ne, zx_icmp_lt, zx_icmp_ge, zx_icmp_gt, zx_icmp_le, zx_getfield, zx_putfield, zx_iaload, zx_laload, zx_aaload, zx_iastore, zx_lastore, zx_arraylength, zx_ireturn, zx_lreturn, zx_areturn, zx_return, zx_athrow, zx_static0, zx_static1, zx_virt1, zx_static2, zx_virt2, zx_static3, zx_virt3, zx_static4, zx_virt4, zx_static5, zx_virt5, zx_static6, zx_virt6, zx_static7, zx_virt7, zx_cpI, zx_cpL, ↓cpI, ↓cpL, zx_slen, zx_schr, zx_tsw, zx_spec3, new_X, zx_new1, zrun_nil, zrun_cons, ↓zgi_h, ↓zgi_n, ↓zgl_h, ↓zgl_n, ↓zgr_h, ↓zgr_n, zset1, zset2, zins_nil, zins_c, f3, cat_i, cat_l, cat_r, List.filter_cons, List.filter_nil, Bool.false_eq_true, l_of0, lv_args, Nat.reduceBEq, Nat.reduceAdd, Nat.reduceLeDiff, Nat.reduceLT, Bool.not_true, Bool.not_false, Bool.and_true, Bool.true_and, Bool.and_false, Bool.false_and, Nat.reduceEqDiff, reduceIte, List.contains_cons, List.contains_nil, Bool.or_false, Bool.or_true, Bool.false_or, Bool.true_or, Fin.isValue, Fin.val_zero, Fin.val_one, Fin.val_two, Fin.reduceFinMk, Option.toList_some, Option.toList_none, List.nil_append, List.cons_append, zwt_nil, zwt_i, zwt_l, zwt_r, zthr_nil, List.isEmpty_nil, zcE, ↓ar_k, lgc0, true_and, and_true, true_implies, implies_true, false_implies, forall_const, i_len, ob_0, ob_1, ↓bI_01, bI_0, not_true_eq_false, not_false_eq_true, Bool.not_eq_false, Bool.not_eq_true, ia_add, ia_sub, ia_mul, ia_neg, ↓ldI, ↓ldL, zaI_c, zaL_c, ↓zlen_I, ↓zlen_L, ↓stI, ↓stL, gD_sI, gN_sI, gI_sI, gJ_sI, gR_sI, gA_sI, gB_sI, gT_sI, gD_sJ, gN_sJ, gI_sJ, gJ_sJ, gR_sJ, gA_sJ, gB_sJ, gT_sJ, gD_sR, gN_sR, gI_sR, gJ_sR, gR_sR, gA_sR, gB_sR, gT_sR, gD_sA, gN_sA, gI_sA, gJ_sA, gR_sA, gA_sA, gB_sA, gT_sA, gD_sB, gN_sB, gI_sB, gJ_sB, gR_sB, gA_sB, gB_sB, gT_sB, e_has, e_bA, e_mn, e_mx, e_pcI, e_pcL, e_low, zml_93, zg93_0, zb93_0, zb93_14, zg93_51, zb93_51, zg93_54, zb93_54, zg93_60, zb93_60, zmc_91, zms_91, zow_91, zhd_91, zmc_92, zms_92, zow_92, zhd_92, zmc_93, zms_93, zow_93, zhd_93, ↓gf_8_0, show ztg 20 40 = 60 from rfl, show ztg 35 19 = 54 from rfl, show ztg 39 12 = 51 from rfl, show ztg 48 6 = 54 from rfl, show ztg 57 (-43) = 14 from rfl, e_lss (a := x) (b := lcs T R i) (by omega) (by omega)]
      try simp (disch := omega) only [ii_lt, ii_le, ii_eq, ii_eq0, ii_lt0, ii_0lt, ii_le0, ii_0le, i_inT, i_natN, i_nat, ia_div, ia_rem, hs_ofI, i_1shl, i_or, i_bit, true_and, and_true, not_true_eq_false, not_false_eq_true, true_implies, false_implies, implies_true, Int.reduceLT, Int.reduceLE, Int.reduceEq, Int.reduceNeg, Int.toNat_natCast, Int.reduceToNat, Nat.reduceLeDiff, Nat.reduceAdd, tn_2, tn_2p, tn_48, tn_48r, tn_3, tn_3p, tn_3q, tn_p1, tn_d2, tn_12]
      refine ⟨fun c1 => ?_, fun c1 => ⟨fun c2 => ?_, fun c2 => ⟨fun c3 => ?_, fun c3 => ?_⟩⟩⟩
      · rw [if_neg (fun z => z.1 (by omega))] at ih
        exact zjf rfl ih
      · rw [if_pos ⟨by omega, .inl (by omega)⟩] at ih
        exact zjf rfl ih
      · rw [if_neg (fun z => z.2.elim (fun q => c2 (by omega)) (fun q => by rw [c3] at q; cases q))] at ih
        exact zjf rfl ih
      · rw [if_pos ⟨by omega, .inr c3⟩] at ih
        exact zjf rfl ih
  exact key 0 (by omega)
