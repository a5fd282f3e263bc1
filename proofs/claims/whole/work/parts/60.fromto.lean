/-! FROM THE CORNER AND BACK TO IT -/
theorem mn_ol {o1 o2 : Option Nat} {V : Nat} (h1 : ∀ x, o1 = some x → x ≤ 200000) (h2 : ∀ y, o2 = some y → V = y ∧ y ≤ 200000) (h3 : o2 = none → 268435456 ≤ V) (hV : V ≤ 2000000000) : mn (Int32.ofInt (fr 268435456 o1)) (Int32.ofInt V) = Int32.ofInt (fr 268435456 (ol o1 o2)) := by
  have hf := fr_b h1
  cases o2 with
  | none =>
    have := h3 rfl
    rw [ol_nr, mn_of (by omega) (by omega)]
    congr 1
    omega
  | some y =>
    obtain ⟨e, hy⟩ := h2 y rfl
    subst e
    cases o1 with
    | none =>
      show mn (Int32.ofInt ((268435456 : Nat) : Int)) _ = Int32.ofInt (V : Int)
      rw [mn_of (by omega) (by omega)]
      congr 1
      omega
    | some x =>
      have := h1 x rfl
      show mn (Int32.ofInt (x : Int)) _ = Int32.ofInt ((min x V : Nat) : Int)
      rw [mn_of (by omega) (by omega)]
      congr 1
      omega
theorem om_b {f : Nat → Option Nat} {B : Nat} (h : ∀ e x, f e = some x → x ≤ B) : ∀ n x, om f n = some x → x ≤ B := by
  intro n x hx
  obtain ⟨e, _, h2⟩ := om_ls.1 x hx
  exact h e x h2
theorem fC_b {T : Tw} {R : Nat → Nat → Bool} {c a : Nat} (hw : wf T) (hR : ∀ a b, R a b = true → isA T a = true ∧ isA T b = true) : ∀ f x, fC T R c a f = some x → x ≤ 4950 := by
  intro f x hx
  unfold fC at hx
  split at hx
  · rename_i h1
    have := (wf_bg hw (isA_lt h1.1)).2.2.2.2
    split at hx
    · cases hx
      omega
    · obtain ⟨y, z, y1, y2, y3⟩ := oa_ex hx
      cases y1
      have := mI_b hw hR y2
      omega
  · cases hx
theorem tC_b {T : Tw} {R : Nat → Nat → Bool} {c a : Nat} (hw : wf T) (hR : ∀ a b, R a b = true → isA T a = true ∧ isA T b = true) : ∀ f x, tC T R c a f = some x → x ≤ 4851 := by
  intro f x hx
  unfold tC at hx
  split at hx
  · exact mI_b hw hR hx
  · cases hx
theorem u_fromC {σ : zS} {t c a p b : Nat} {T : Tw} {r : Rl} {Q : zQ} (h : QC σ t T r) (hp : PS σ p b) (n2 : gN σ p = 2304) (hM : MX σ p (2 * nS T) (mI T (nx T r) (2 * nS T))) (hc : c < nC T) (ha : a < 2 * nS T) (hQ : Q (.inl (some (.int (Int32.ofInt (fr 268435456 (om (fC T (nx T r) c a) (2 * nS T))))))) (hOf σ)) : zW zP 133 [.ref 63, .ref t, .int (Int32.ofInt c), .int (Int32.ofInt a)] (hOf σ) Q := by
  have ht := CT_t (QC_T h)
  have hw := QC_w h
  have h24 := hw.2.1
  have h16 := hw.1
  have hb := fC_b (T := T) (R := nx T r) (c := c) (a := a) hw nx_A
  have hob := om_b hb
  rw [zWE]
  simp -implicitDefEqProofs only [zx_iconst, zx_bipush, zx_sipush, zx_lconst, zx_ldc, zx_ldcS, zx_ldc_w, zx_ldc2_w, zx_iload, zx_lload, zx_aload, zx_istore_n, zx_istore, zx_lstore_n, zx_lstore, zx_astore_n, zx_astore, zx_iinc, zx_iadd, zx_isub, zx_imul, zx_iand, zx_ior, zx_ixor, zx_ishl, zx_ishr, zx_iushr, zx_idiv, zx_irem, zx_ineg, zx_ladd, zx_lsub, zx_land, zx_lor, zx_lxor, zx_lneg, zx_lshl, zx_lushr, zx_i2l, zx_l2i, zx_lcmp, zx_dup, zx_dup2, zx_pop, zx_goto, zx_if_eq, zx_if_ne, zx_if_lt, zx_if_ge, zx_if_gt, zx_if_le, zx_icmp_eq, zx_icmp_ne, zx_icmp_lt, zx_icmp_ge, zx_icmp_gt, zx_icmp_le, zx_getfield, zx_putfield, zx_iaload, zx_laload, zx_aaload, zx_iastore, zx_lastore, zx_arraylength, zx_ireturn, zx_lreturn, zx_areturn, zx_return, zx_athrow, zx_static0, zx_static1, zx_virt1, zx_static2, zx_virt2, zx_static3, zx_virt3, zx_static4, zx_virt4, zx_static5, zx_virt5, zx_static6, zx_virt6, zx_static7, zx_virt7, zx_cpI, zx_cpL, ↓cpI, ↓cpL, zx_slen, zx_schr, zx_tsw, zx_spec3, new_X, zx_new1, zrun_nil, zrun_cons, ↓zgi_h, ↓zgi_n, ↓zgl_h, ↓zgl_n, ↓zgr_h, ↓zgr_n, zset1, zset2, zins_nil, zins_c, f3, cat_i, cat_l, cat_r, List.filter_cons, List.filter_nil, Bool.false_eq_true, l_of0, lv_args, Nat.reduceBEq, Nat.reduceAdd, Nat.reduceLeDiff, Nat.reduceLT, Bool.not_true, Bool.not_false, Bool.and_true, Bool.true_and, Bool.and_false, Bool.false_and, Nat.reduceEqDiff, reduceIte, List.contains_cons, List.contains_nil, Bool.or_false, Bool.or_true, Bool.false_or, Bool.true_or, Fin.isValue, Fin.val_zero, Fin.val_one, Fin.val_two, Fin.reduceFinMk, Option.toList_some, Option.toList_none, List.nil_append, List.cons_append, zwt_nil, zwt_i, zwt_l, zwt_r, zthr_nil, List.isEmpty_nil, zcE, ↓ar_k, lgc0, true_and, and_true, true_implies, implies_true, false_implies, forall_const, i_len, ob_0, ob_1, ↓bI_01, bI_0, not_true_eq_false, not_false_eq_true, Bool.not_eq_false, Bool.not_eq_true, ia_add, ia_sub, ia_mul, ia_neg, ↓ldI, ↓ldL, zaI_c, zaL_c, ↓zlen_I, ↓zlen_L, ↓stI, ↓stL, gD_sI, gN_sI, gI_sI, gJ_sI, gR_sI, gA_sI, gB_sI, gT_sI, gD_sJ, gN_sJ, gI_sJ, gJ_sJ, gR_sJ, gA_sJ, gB_sJ, gT_sJ, gD_sR, gN_sR, gI_sR, gJ_sR, gR_sR, gA_sR, gB_sR, gT_sR, gD_sA, gN_sA, gI_sA, gJ_sA, gR_sA, gA_sA, gB_sA, gT_sA, gD_sB, gN_sB, gI_sB, gJ_sB, gR_sB, gA_sB, gB_sB, gT_sB, zx_il0, zx_il1, zx_il2, zx_il3, zx_ll0, zx_ll1, zx_ll2, zx_ll3, zx_al0, zx_al1, zx_al2, zx_al3, e_has, e_bA, e_mn, e_mx, e_pcI, e_pcL, e_low, zml_133, zg133_0, zb133_0, zb133_7, zg133_42, zb133_42, zg133_54, zb133_54, zg133_73, zb133_73, zg133_79, zb133_79, zmc_26, zms_26, zow_26, zhd_26, zmc_133, zms_133, zow_133, zhd_133, zmc_31, zms_31, zow_31, zhd_31, ↓gf_3_0, ↓gf_8_1, ↓gf_8_10, ↓gf_8_14, show (Int8.ofInt 48).toInt32 = Int32.ofInt 48 from rfl, show ztg 15 64 = 79 from rfl, show ztg 29 44 = 73 from rfl, show ztg 35 7 = 42 from rfl, show ztg 39 15 = 54 from rfl, show ztg 76 (-69) = 7 from rfl, LPost_d (PS_L hp), LPost_r2 (PS_L hp), LPost_k2 (PS_L hp), LPost_n2 (PS_L hp), LPost_r4 (PS_L hp), LPost_k4 (PS_L hp), LPost_n4 (PS_L hp), LPost_r5 (PS_L hp), LPost_k5 (PS_L hp), LPost_n5 (PS_L hp)]
  have key : ∀ i : Nat, i ≤ 2 * nS T → zfp zP (zcall zP 133) 133 Q 7 [(0, .ref 63), (1, .ref t), (2, .int (Int32.ofInt c)), (3, .int (Int32.ofInt a)), (4, .int (Int32.ofInt (fr 268435456 (om (fC T (nx T r) c a) i)))), (5, .int (Int32.ofInt i))] [] (hOf σ) 0 0 := by
    refine bk _ ?_
    intro i hi ih
    rw [zg133_7]
    simp -implicitDefEqProofs only [zx_iconst, zx_bipush, zx_sipush, zx_lconst, zx_ldc, zx_ldcS, zx_ldc_w, zx_ldc2_w, zx_iload, zx_lload, zx_aload, zx_istore_n, zx_istore, zx_lstore_n, zx_lstore, zx_astore_n, zx_astore, zx_iinc, zx_iadd, zx_isub, zx_imul, zx_iand, zx_ior, zx_ixor, zx_ishl, zx_ishr, zx_iushr, zx_idiv, zx_irem, zx_ineg, zx_ladd, zx_lsub, zx_land, zx_lor, zx_lxor, zx_lneg, zx_lshl, zx_lushr, zx_i2l, zx_l2i, zx_lcmp, zx_dup, zx_dup2, zx_pop, zx_goto, zx_if_eq, zx_if_ne, zx_if_lt, zx_if_ge, zx_if_gt, zx_if_le, zx_icmp_eq, zx_icmp_ne, zx_icmp_lt, zx_icmp_ge, zx_icmp_gt, zx_icmp_le, zx_getfield, zx_putfield, zx_iaload, zx_laload, zx_aaload, zx_iastore, zx_lastore, zx_arraylength, zx_ireturn, zx_lreturn, zx_areturn, zx_return, zx_athrow, zx_static0, zx_static1, zx_virt1, zx_static2, zx_virt2, zx_static3, zx_virt3, zx_static4, zx_virt4, zx_static5, zx_virt5, zx_static6, zx_virt6, zx_static7, zx_virt7, zx_cpI, zx_cpL, ↓cpI, ↓cpL, zx_slen, zx_schr, zx_tsw, zx_spec3, new_X, zx_new1, zrun_nil, zrun_cons, ↓zgi_h, ↓zgi_n, ↓zgl_h, ↓zgl_n, ↓zgr_h, ↓zgr_n, zset1, zset2, zins_nil, zins_c, f3, cat_i, cat_l, cat_r, List.filter_cons, List.filter_nil, Bool.false_eq_true, l_of0, lv_args, Nat.reduceBEq, Nat.reduceAdd, Nat.reduceLeDiff, Nat.reduceLT, Bool.not_true, Bool.not_false, Bool.and_true, Bool.true_and, Bool.and_false, Bool.false_and, Nat.reduceEqDiff, reduceIte, List.contains_cons, List.contains_nil, Bool.or_false, Bool.or_true, Bool.false_or, Bool.true_or, Fin.isValue, Fin.val_zero, Fin.val_one, Fin.val_two, Fin.reduceFinMk, Option.toList_some, Option.toList_none, List.nil_append, List.cons_append, zwt_nil, zwt_i, zwt_l, zwt_r, zthr_nil, List.isEmpty_nil, zcE, ↓ar_k, lgc0, true_and, and_true, true_implies, implies_true, false_implies, forall_const, i_len, ob_0, ob_1, ↓bI_01, bI_0, not_true_eq_false, not_false_eq_true, Bool.not_eq_false, Bool.not_eq_true, ia_add, ia_sub, ia_mul, ia_neg, ↓ldI, ↓ldL, zaI_c, zaL_c, ↓zlen_I, ↓zlen_L, ↓stI, ↓stL, gD_sI, gN_sI, gI_sI, gJ_sI, gR_sI, gA_sI, gB_sI, gT_sI, gD_sJ, gN_sJ, gI_sJ, gJ_sJ, gR_sJ, gA_sJ, gB_sJ, gT_sJ, gD_sR, gN_sR, gI_sR, gJ_sR, gR_sR, gA_sR, gB_sR, gT_sR, gD_sA, gN_sA, gI_sA, gJ_sA, gR_sA, gA_sA, gB_sA, gT_sA, gD_sB, gN_sB, gI_sB, gJ_sB, gR_sB, gA_sB, gB_sB, gT_sB, zx_il0, zx_il1, zx_il2, zx_il3, zx_ll0, zx_ll1, zx_ll2, zx_ll3, zx_al0, zx_al1, zx_al2, zx_al3, e_has, e_bA, e_mn, e_mx, e_pcI, e_pcL, e_low, zml_133, zg133_0, zb133_0, zb133_7, zg133_42, zb133_42, zb133_54, zg133_73, zb133_73, zg133_79, zb133_79, zmc_26, zms_26, zow_26, zhd_26, zmc_133, zms_133, zow_133, zhd_133, zmc_31, zms_31, zow_31, zhd_31, ↓gf_3_0, ↓gf_8_1, ↓gf_8_10, ↓gf_8_14, show (Int8.ofInt 48).toInt32 = Int32.ofInt 48 from rfl, show ztg 15 64 = 79 from rfl, show ztg 29 44 = 73 from rfl, show ztg 35 7 = 42 from rfl, show ztg 39 15 = 54 from rfl, show ztg 76 (-69) = 7 from rfl, LPost_d (PS_L hp), LPost_r2 (PS_L hp), LPost_k2 (PS_L hp), LPost_n2 (PS_L hp), LPost_r4 (PS_L hp), LPost_k4 (PS_L hp), LPost_n4 (PS_L hp), LPost_r5 (PS_L hp), LPost_k5 (PS_L hp), LPost_n5 (PS_L hp), LTown_g (CT_L (QC_T h)), LTown_d (CT_L (QC_T h)), LTown_r6 (CT_L (QC_T h)), LTown_k6 (CT_L (QC_T h)), LTown_n6 (CT_L (QC_T h)), LTown_r7 (CT_L (QC_T h)), LTown_k7 (CT_L (QC_T h)), LTown_n7 (CT_L (QC_T h)), LTown_r8 (CT_L (QC_T h)), LTown_k8 (CT_L (QC_T h)), LTown_n8 (CT_L (QC_T h)), LTown_r9 (CT_L (QC_T h)), LTown_k9 (CT_L (QC_T h)), LTown_n9 (CT_L (QC_T h)), LTown_r10 (CT_L (QC_T h)), LTown_k10 (CT_L (QC_T h)), LTown_n10 (CT_L (QC_T h)), LTown_r11 (CT_L (QC_T h)), LTown_k11 (CT_L (QC_T h)), LTown_n11 (CT_L (QC_T h)), LTown_r12 (CT_L (QC_T h)), LTown_k12 (CT_L (QC_T h)), LTown_n12 (CT_L (QC_T h)), LTown_r13 (CT_L (QC_T h)), LTown_k13 (CT_L (QC_T h)), LTown_n13 (CT_L (QC_T h)), LTown_r14 (CT_L (QC_T h)), LTown_k14 (CT_L (QC_T h)), LTown_n14 (CT_L (QC_T h)), LTown_r15 (CT_L (QC_T h)), LTown_k15 (CT_L (QC_T h)), LTown_n15 (CT_L (QC_T h)), LTown_r16 (CT_L (QC_T h)), LTown_k16 (CT_L (QC_T h)), LTown_n16 (CT_L (QC_T h)), LTown_r17 (CT_L (QC_T h)), LTown_k17 (CT_L (QC_T h)), LTown_n17 (CT_L (QC_T h)), LTown_r18 (CT_L (QC_T h)), LTown_k18 (CT_L (QC_T h)), LTown_n18 (CT_L (QC_T h)), CT_1 (QC_T h), PS_p hp, PS_dp hp, n2]
    try simp (disch := omega) only [ii_lt, ii_le, ii_eq, ii_eq0, ii_lt0, ii_0lt, ii_le0, ii_0le, i_inT, i_natN, i_nat, ia_div, ia_rem, hs_ofI, i_1shl, i_or, i_bit, true_and, and_true, not_true_eq_false, not_false_eq_true, true_implies, false_implies, implies_true, Int.reduceLT, Int.reduceLE, Int.reduceEq, Int.reduceNeg, Int.toNat_natCast, Int.reduceToNat, Nat.reduceLeDiff, Nat.reduceAdd, tn_2, tn_2p, tn_48, tn_48r, tn_3, tn_3p, tn_3q, tn_p1, tn_d2, tn_12, ia_add, ia_sub, ia_mul]
    refine ⟨fun c1 => ?_, fun c1 => ?_⟩
    · rw [show i = 2 * nS T from by omega]
      exact hQ
    · have ih := ih (by omega)
      rw [om_s] at ih
      have hbt := (QC_S h).1 c (by omega) i
      have hle := CT_l (QC_T h) i (by omega)
      have hl99 := (wf_bg hw (show i < 2 * nS T by omega)).2.2.2.2
      try simp (disch := omega) only [ii_lt, ii_le, ii_eq, ii_eq0, ii_lt0, ii_0lt, ii_le0, ii_0le, i_inT, i_natN, i_nat, ia_div, ia_rem, hs_ofI, i_1shl, i_or, i_bit, true_and, and_true, not_true_eq_false, not_false_eq_true, true_implies, false_implies, implies_true, Int.reduceLT, Int.reduceLE, Int.reduceEq, Int.reduceNeg, Int.toNat_natCast, Int.reduceToNat, Nat.reduceLeDiff, Nat.reduceAdd, tn_2, tn_2p, tn_48, tn_48r, tn_3, tn_3p, tn_3q, tn_p1, tn_d2, tn_12, ia_add, ia_sub, ia_mul, hbt]
      try simp only [hbt]
      try refine ⟨by omega, ?_⟩
      have t54 : ∀ V : Nat, (∀ y, fC T (nx T r) c a i = some y → ln T i + V = y) → (fC T (nx T r) c a i = none → 268435456 ≤ V) → V ≤ 300000000 → zfp zP (zcall zP 133) 133 Q 54 [(0, .ref 63), (1, .ref t), (2, .int (Int32.ofInt c)), (3, .int (Int32.ofInt a)), (4, .int (Int32.ofInt (fr 268435456 (om (fC T (nx T r) c a) i)))), (5, .int (Int32.ofInt i))] [.int (Int32.ofInt V)] (hOf σ) 0 0 := by
        intro V v1 v2 v3
        rw [zg133_54]
        simp -implicitDefEqProofs only [zx_iconst, zx_bipush, zx_sipush, zx_lconst, zx_ldc, zx_ldcS, zx_ldc_w, zx_ldc2_w, zx_iload, zx_lload, zx_aload, zx_istore_n, zx_istore, zx_lstore_n, zx_lstore, zx_astore_n, zx_astore, zx_iinc, zx_iadd, zx_isub, zx_imul, zx_iand, zx_ior, zx_ixor, zx_ishl, zx_ishr, zx_iushr, zx_idiv, zx_irem, zx_ineg, zx_ladd, zx_lsub, zx_land, zx_lor, zx_lxor, zx_lneg, zx_lshl, zx_lushr, zx_i2l, zx_l2i, zx_lcmp, zx_dup, zx_dup2, zx_pop, zx_goto, zx_if_eq, zx_if_ne, zx_if_lt, zx_if_ge, zx_if_gt, zx_if_le, zx_icmp_eq, zx_icmp_ne, zx_icmp_lt, zx_icmp_ge, zx_icmp_gt, zx_icmp_le, zx_getfield, zx_putfield, zx_iaload, zx_laload, zx_aaload, zx_iastore, zx_lastore, zx_arraylength, zx_ireturn, zx_lreturn, zx_areturn, zx_return, zx_athrow, zx_static0, zx_static1, zx_virt1, zx_static2, zx_virt2, zx_static3, zx_virt3, zx_static4, zx_virt4, zx_static5, zx_virt5, zx_static6, zx_virt6, zx_static7, zx_virt7, zx_cpI, zx_cpL, ↓cpI, ↓cpL, zx_slen, zx_schr, zx_tsw, zx_spec3, new_X, zx_new1, zrun_nil, zrun_cons, ↓zgi_h, ↓zgi_n, ↓zgl_h, ↓zgl_n, ↓zgr_h, ↓zgr_n, zset1, zset2, zins_nil, zins_c, f3, cat_i, cat_l, cat_r, List.filter_cons, List.filter_nil, Bool.false_eq_true, l_of0, lv_args, Nat.reduceBEq, Nat.reduceAdd, Nat.reduceLeDiff, Nat.reduceLT, Bool.not_true, Bool.not_false, Bool.and_true, Bool.true_and, Bool.and_false, Bool.false_and, Nat.reduceEqDiff, reduceIte, List.contains_cons, List.contains_nil, Bool.or_false, Bool.or_true, Bool.false_or, Bool.true_or, Fin.isValue, Fin.val_zero, Fin.val_one, Fin.val_two, Fin.reduceFinMk, Option.toList_some, Option.toList_none, List.nil_append, List.cons_append, zwt_nil, zwt_i, zwt_l, zwt_r, zthr_nil, List.isEmpty_nil, zcE, ↓ar_k, lgc0, true_and, and_true, true_implies, implies_true, false_implies, forall_const, i_len, ob_0, ob_1, ↓bI_01, bI_0, not_true_eq_false, not_false_eq_true, Bool.not_eq_false, Bool.not_eq_true, ia_add, ia_sub, ia_mul, ia_neg, ↓ldI, ↓ldL, zaI_c, zaL_c, ↓zlen_I, ↓zlen_L, ↓stI, ↓stL, gD_sI, gN_sI, gI_sI, gJ_sI, gR_sI, gA_sI, gB_sI, gT_sI, gD_sJ, gN_sJ, gI_sJ, gJ_sJ, gR_sJ, gA_sJ, gB_sJ, gT_sJ, gD_sR, gN_sR, gI_sR, gJ_sR, gR_sR, gA_sR, gB_sR, gT_sR, gD_sA, gN_sA, gI_sA, gJ_sA, gR_sA, gA_sA, gB_sA, gT_sA, gD_sB, gN_sB, gI_sB, gJ_sB, gR_sB, gA_sB, gB_sB, gT_sB, zx_il0, zx_il1, zx_il2, zx_il3, zx_ll0, zx_ll1, zx_ll2, zx_ll3, zx_al0, zx_al1, zx_al2, zx_al3, e_has, e_bA, e_mn, e_mx, e_pcI, e_pcL, e_low, zml_133, zg133_0, zb133_0, zb133_7, zg133_42, zb133_42, zg133_54, zb133_54, zg133_73, zb133_73, zg133_79, zb133_79, zmc_26, zms_26, zow_26, zhd_26, zmc_133, zms_133, zow_133, zhd_133, zmc_31, zms_31, zow_31, zhd_31, ↓gf_3_0, ↓gf_8_1, ↓gf_8_10, ↓gf_8_14, show (Int8.ofInt 48).toInt32 = Int32.ofInt 48 from rfl, show ztg 15 64 = 79 from rfl, show ztg 29 44 = 73 from rfl, show ztg 35 7 = 42 from rfl, show ztg 39 15 = 54 from rfl, show ztg 76 (-69) = 7 from rfl, LPost_d (PS_L hp), LPost_r2 (PS_L hp), LPost_k2 (PS_L hp), LPost_n2 (PS_L hp), LPost_r4 (PS_L hp), LPost_k4 (PS_L hp), LPost_n4 (PS_L hp), LPost_r5 (PS_L hp), LPost_k5 (PS_L hp), LPost_n5 (PS_L hp), LTown_g (CT_L (QC_T h)), LTown_d (CT_L (QC_T h)), LTown_r6 (CT_L (QC_T h)), LTown_k6 (CT_L (QC_T h)), LTown_n6 (CT_L (QC_T h)), LTown_r7 (CT_L (QC_T h)), LTown_k7 (CT_L (QC_T h)), LTown_n7 (CT_L (QC_T h)), LTown_r8 (CT_L (QC_T h)), LTown_k8 (CT_L (QC_T h)), LTown_n8 (CT_L (QC_T h)), LTown_r9 (CT_L (QC_T h)), LTown_k9 (CT_L (QC_T h)), LTown_n9 (CT_L (QC_T h)), LTown_r10 (CT_L (QC_T h)), LTown_k10 (CT_L (QC_T h)), LTown_n10 (CT_L (QC_T h)), LTown_r11 (CT_L (QC_T h)), LTown_k11 (CT_L (QC_T h)), LTown_n11 (CT_L (QC_T h)), LTown_r12 (CT_L (QC_T h)), LTown_k12 (CT_L (QC_T h)), LTown_n12 (CT_L (QC_T h)), LTown_r13 (CT_L (QC_T h)), LTown_k13 (CT_L (QC_T h)), LTown_n13 (CT_L (QC_T h)), LTown_r14 (CT_L (QC_T h)), LTown_k14 (CT_L (QC_T h)), LTown_n14 (CT_L (QC_T h)), LTown_r15 (CT_L (QC_T h)), LTown_k15 (CT_L (QC_T h)), LTown_n15 (CT_L (QC_T h)), LTown_r16 (CT_L (QC_T h)), LTown_k16 (CT_L (QC_T h)), LTown_n16 (CT_L (QC_T h)), LTown_r17 (CT_L (QC_T h)), LTown_k17 (CT_L (QC_T h)), LTown_n17 (CT_L (QC_T h)), LTown_r18 (CT_L (QC_T h)), LTown_k18 (CT_L (QC_T h)), LTown_n18 (CT_L (QC_T h))]
        try simp (disch := omega) only [ii_lt, ii_le, ii_eq, ii_eq0, ii_lt0, ii_0lt, ii_le0, ii_0le, i_inT, i_natN, i_nat, ia_div, ia_rem, hs_ofI, i_1shl, i_or, i_bit, true_and, and_true, not_true_eq_false, not_false_eq_true, true_implies, false_implies, implies_true, Int.reduceLT, Int.reduceLE, Int.reduceEq, Int.reduceNeg, Int.toNat_natCast, Int.reduceToNat, Nat.reduceLeDiff, Nat.reduceAdd, tn_2, tn_2p, tn_48, tn_48r, tn_3, tn_3p, tn_3q, tn_p1, tn_d2, tn_12, ia_add, ia_sub, ia_mul, hle]
        try simp only [hle]
        try refine ⟨by omega, ?_⟩
        have := mn_ol (o1 := om (fC T (nx T r) c a) i) (o2 := fC T (nx T r) c a i) (V := ln T i + V) (fun x hx => by have := hob i x hx; omega) (fun y hy => ⟨v1 y hy, by have := hb i y hy; omega⟩) (fun hn => by have := v2 hn; omega) (by omega)
        rw [show ((ln T i + V : Nat) : Int) = (ln T i : Int) + (V : Int) from by omega] at this
        try simp only [ia_add]
        rw [this]
        first | exact ih | exact zjf rfl (ih)
      refine ⟨fun c2 => ?_, fun c2 => ?_⟩
      · have e : fC T (nx T r) c a i = none := by
          unfold fC
          rw [if_neg]
          intro z
          rw [z.1, decide_eq_true z.2] at c2
          cases c2
        rw [e, ol_nr] at ih
        first | exact ih | exact zjf rfl (ih)
      · rw [Bool.and_eq_true, decide_eq_true_eq] at c2
        refine ⟨fun c3 => ?_, fun c3 => ?_⟩
        · have hm := hM i a (by omega) ha
          try simp (disch := omega) only [ii_lt, ii_le, ii_eq, ii_eq0, ii_lt0, ii_0lt, ii_le0, ii_0le, i_inT, i_natN, i_nat, ia_div, ia_rem, hs_ofI, i_1shl, i_or, i_bit, true_and, and_true, not_true_eq_false, not_false_eq_true, true_implies, false_implies, implies_true, Int.reduceLT, Int.reduceLE, Int.reduceEq, Int.reduceNeg, Int.toNat_natCast, Int.reduceToNat, Nat.reduceLeDiff, Nat.reduceAdd, tn_2, tn_2p, tn_48, tn_48r, tn_3, tn_3p, tn_3q, tn_p1, tn_d2, tn_12, ia_add, ia_sub, ia_mul, hm]
          try simp only [hm]
          try refine ⟨by omega, ?_⟩
          have e : fC T (nx T r) c a i = oa (some (ln T i)) (mI T (nx T r) (2 * nS T) i a) := by
            unfold fC
            rw [if_pos c2, if_neg (by omega)]
          have hmb : fr 268435456 (mI T (nx T r) (2 * nS T) i a) ≤ 268435456 := fr_b (fun x hx => by have := mI_b hw nx_A hx; omega)
          have := t54 (fr 268435456 (mI T (nx T r) (2 * nS T) i a)) (fun y hy => ?_) (fun hn => ?_) (by omega)
          · first | exact this | exact zjf rfl (this)
          · rw [e] at hy
            obtain ⟨u, v, u1, v1, e3⟩ := oa_ex hy
            cases u1
            rw [v1, e3]
            rfl
          · rw [e] at hn
            cases e4 : mI T (nx T r) (2 * nS T) i a with
            | none => exact Nat.le_refl _
            | some z =>
              rw [e4] at hn
              cases hn
        · have e : fC T (nx T r) c a i = some (ln T i) := by
            unfold fC
            rw [if_pos c2, if_pos (by omega)]
          have := t54 0 (fun y hy => by rw [e] at hy; cases hy; rfl) (fun hn => by rw [e] at hn; cases hn) (by omega)
          first | exact this | exact zjf rfl (this)
  first | exact (key 0 (by omega)) | exact zjf rfl ((key 0 (by omega)))
theorem u_toC {σ : zS} {t c a p b : Nat} {T : Tw} {r : Rl} {Q : zQ} (h : QC σ t T r) (hp : PS σ p b) (n2 : gN σ p = 2304) (hM : MX σ p (2 * nS T) (mI T (nx T r) (2 * nS T))) (hc : c < nC T) (ha : a < 2 * nS T) (hQ : Q (.inl (some (.int (Int32.ofInt (fr 268435456 (om (tC T (nx T r) c a) (2 * nS T))))))) (hOf σ)) : zW zP 138 [.ref 63, .ref t, .int (Int32.ofInt c), .int (Int32.ofInt a)] (hOf σ) Q := by
  have ht := CT_t (QC_T h)
  have hw := QC_w h
  have h24 := hw.2.1
  have h16 := hw.1
  have hb := tC_b (T := T) (R := nx T r) (c := c) (a := a) hw nx_A
  have hob := om_b hb
  rw [zWE]
  simp -implicitDefEqProofs only [zx_iconst, zx_bipush, zx_sipush, zx_lconst, zx_ldc, zx_ldcS, zx_ldc_w, zx_ldc2_w, zx_iload, zx_lload, zx_aload, zx_istore_n, zx_istore, zx_lstore_n, zx_lstore, zx_astore_n, zx_astore, zx_iinc, zx_iadd, zx_isub, zx_imul, zx_iand, zx_ior, zx_ixor, zx_ishl, zx_ishr, zx_iushr, zx_idiv, zx_irem, zx_ineg, zx_ladd, zx_lsub, zx_land, zx_lor, zx_lxor, zx_lneg, zx_lshl, zx_lushr, zx_i2l, zx_l2i, zx_lcmp, zx_dup, zx_dup2, zx_pop, zx_goto, zx_if_eq, zx_if_ne, zx_if_lt, zx_if_ge, zx_if_gt, zx_if_le, zx_icmp_eq, zx_icmp_ne, zx_icmp_lt, zx_icmp_ge, zx_icmp_gt, zx_icmp_le, zx_getfield, zx_putfield, zx_iaload, zx_laload, zx_aaload, zx_iastore, zx_lastore, zx_arraylength, zx_ireturn, zx_lreturn, zx_areturn, zx_return, zx_athrow, zx_static0, zx_static1, zx_virt1, zx_static2, zx_virt2, zx_static3, zx_virt3, zx_static4, zx_virt4, zx_static5, zx_virt5, zx_static6, zx_virt6, zx_static7, zx_virt7, zx_cpI, zx_cpL, ↓cpI, ↓cpL, zx_slen, zx_schr, zx_tsw, zx_spec3, new_X, zx_new1, zrun_nil, zrun_cons, ↓zgi_h, ↓zgi_n, ↓zgl_h, ↓zgl_n, ↓zgr_h, ↓zgr_n, zset1, zset2, zins_nil, zins_c, f3, cat_i, cat_l, cat_r, List.filter_cons, List.filter_nil, Bool.false_eq_true, l_of0, lv_args, Nat.reduceBEq, Nat.reduceAdd, Nat.reduceLeDiff, Nat.reduceLT, Bool.not_true, Bool.not_false, Bool.and_true, Bool.true_and, Bool.and_false, Bool.false_and, Nat.reduceEqDiff, reduceIte, List.contains_cons, List.contains_nil, Bool.or_false, Bool.or_true, Bool.false_or, Bool.true_or, Fin.isValue, Fin.val_zero, Fin.val_one, Fin.val_two, Fin.reduceFinMk, Option.toList_some, Option.toList_none, List.nil_append, List.cons_append, zwt_nil, zwt_i, zwt_l, zwt_r, zthr_nil, List.isEmpty_nil, zcE, ↓ar_k, lgc0, true_and, and_true, true_implies, implies_true, false_implies, forall_const, i_len, ob_0, ob_1, ↓bI_01, bI_0, not_true_eq_false, not_false_eq_true, Bool.not_eq_false, Bool.not_eq_true, ia_add, ia_sub, ia_mul, ia_neg, ↓ldI, ↓ldL, zaI_c, zaL_c, ↓zlen_I, ↓zlen_L, ↓stI, ↓stL, gD_sI, gN_sI, gI_sI, gJ_sI, gR_sI, gA_sI, gB_sI, gT_sI, gD_sJ, gN_sJ, gI_sJ, gJ_sJ, gR_sJ, gA_sJ, gB_sJ, gT_sJ, gD_sR, gN_sR, gI_sR, gJ_sR, gR_sR, gA_sR, gB_sR, gT_sR, gD_sA, gN_sA, gI_sA, gJ_sA, gR_sA, gA_sA, gB_sA, gT_sA, gD_sB, gN_sB, gI_sB, gJ_sB, gR_sB, gA_sB, gB_sB, gT_sB, zx_il0, zx_il1, zx_il2, zx_il3, zx_ll0, zx_ll1, zx_ll2, zx_ll3, zx_al0, zx_al1, zx_al2, zx_al3, e_has, e_bA, e_mn, e_mx, e_pcI, e_pcL, e_low, zml_138, zg138_0, zb138_0, zb138_7, zg138_51, zb138_51, zg138_57, zb138_57, zmc_138, zms_138, zow_138, zhd_138, zmc_26, zms_26, zow_26, zhd_26, zmc_31, zms_31, zow_31, zhd_31, ↓gf_3_0, ↓gf_8_1, ↓gf_8_15, show (Int8.ofInt 48).toInt32 = Int32.ofInt 48 from rfl, show ztg 15 42 = 57 from rfl, show ztg 29 22 = 51 from rfl, show ztg 54 (-47) = 7 from rfl, LPost_d (PS_L hp), LPost_r2 (PS_L hp), LPost_k2 (PS_L hp), LPost_n2 (PS_L hp), LPost_r4 (PS_L hp), LPost_k4 (PS_L hp), LPost_n4 (PS_L hp), LPost_r5 (PS_L hp), LPost_k5 (PS_L hp), LPost_n5 (PS_L hp)]
  have key : ∀ i : Nat, i ≤ 2 * nS T → zfp zP (zcall zP 138) 138 Q 7 [(0, .ref 63), (1, .ref t), (2, .int (Int32.ofInt c)), (3, .int (Int32.ofInt a)), (4, .int (Int32.ofInt (fr 268435456 (om (tC T (nx T r) c a) i)))), (5, .int (Int32.ofInt i))] [] (hOf σ) 0 0 := by
    refine bk _ ?_
    intro i hi ih
    rw [zg138_7]
    simp -implicitDefEqProofs only [zx_iconst, zx_bipush, zx_sipush, zx_lconst, zx_ldc, zx_ldcS, zx_ldc_w, zx_ldc2_w, zx_iload, zx_lload, zx_aload, zx_istore_n, zx_istore, zx_lstore_n, zx_lstore, zx_astore_n, zx_astore, zx_iinc, zx_iadd, zx_isub, zx_imul, zx_iand, zx_ior, zx_ixor, zx_ishl, zx_ishr, zx_iushr, zx_idiv, zx_irem, zx_ineg, zx_ladd, zx_lsub, zx_land, zx_lor, zx_lxor, zx_lneg, zx_lshl, zx_lushr, zx_i2l, zx_l2i, zx_lcmp, zx_dup, zx_dup2, zx_pop, zx_goto, zx_if_eq, zx_if_ne, zx_if_lt, zx_if_ge, zx_if_gt, zx_if_le, zx_icmp_eq, zx_icmp_ne, zx_icmp_lt, zx_icmp_ge, zx_icmp_gt, zx_icmp_le, zx_getfield, zx_putfield, zx_iaload, zx_laload, zx_aaload, zx_iastore, zx_lastore, zx_arraylength, zx_ireturn, zx_lreturn, zx_areturn, zx_return, zx_athrow, zx_static0, zx_static1, zx_virt1, zx_static2, zx_virt2, zx_static3, zx_virt3, zx_static4, zx_virt4, zx_static5, zx_virt5, zx_static6, zx_virt6, zx_static7, zx_virt7, zx_cpI, zx_cpL, ↓cpI, ↓cpL, zx_slen, zx_schr, zx_tsw, zx_spec3, new_X, zx_new1, zrun_nil, zrun_cons, ↓zgi_h, ↓zgi_n, ↓zgl_h, ↓zgl_n, ↓zgr_h, ↓zgr_n, zset1, zset2, zins_nil, zins_c, f3, cat_i, cat_l, cat_r, List.filter_cons, List.filter_nil, Bool.false_eq_true, l_of0, lv_args, Nat.reduceBEq, Nat.reduceAdd, Nat.reduceLeDiff, Nat.reduceLT, Bool.not_true, Bool.not_false, Bool.and_true, Bool.true_and, Bool.and_false, Bool.false_and, Nat.reduceEqDiff, reduceIte, List.contains_cons, List.contains_nil, Bool.or_false, Bool.or_true, Bool.false_or, Bool.true_or, Fin.isValue, Fin.val_zero, Fin.val_one, Fin.val_two, Fin.reduceFinMk, Option.toList_some, Option.toList_none, List.nil_append, List.cons_append, zwt_nil, zwt_i, zwt_l, zwt_r, zthr_nil, List.isEmpty_nil, zcE, ↓ar_k, lgc0, true_and, and_true, true_implies, implies_true, false_implies, forall_const, i_len, ob_0, ob_1, ↓bI_01, bI_0, not_true_eq_false, not_false_eq_true, Bool.not_eq_false, Bool.not_eq_true, ia_add, ia_sub, ia_mul, ia_neg, ↓ldI, ↓ldL, zaI_c, zaL_c, ↓zlen_I, ↓zlen_L, ↓stI, ↓stL, gD_sI, gN_sI, gI_sI, gJ_sI, gR_sI, gA_sI, gB_sI, gT_sI, gD_sJ, gN_sJ, gI_sJ, gJ_sJ, gR_sJ, gA_sJ, gB_sJ, gT_sJ, gD_sR, gN_sR, gI_sR, gJ_sR, gR_sR, gA_sR, gB_sR, gT_sR, gD_sA, gN_sA, gI_sA, gJ_sA, gR_sA, gA_sA, gB_sA, gT_sA, gD_sB, gN_sB, gI_sB, gJ_sB, gR_sB, gA_sB, gB_sB, gT_sB, zx_il0, zx_il1, zx_il2, zx_il3, zx_ll0, zx_ll1, zx_ll2, zx_ll3, zx_al0, zx_al1, zx_al2, zx_al3, e_has, e_bA, e_mn, e_mx, e_pcI, e_pcL, e_low, zml_138, zg138_0, zb138_0, zb138_7, zg138_51, zb138_51, zg138_57, zb138_57, zmc_138, zms_138, zow_138, zhd_138, zmc_26, zms_26, zow_26, zhd_26, zmc_31, zms_31, zow_31, zhd_31, ↓gf_3_0, ↓gf_8_1, ↓gf_8_15, show (Int8.ofInt 48).toInt32 = Int32.ofInt 48 from rfl, show ztg 15 42 = 57 from rfl, show ztg 29 22 = 51 from rfl, show ztg 54 (-47) = 7 from rfl, LPost_d (PS_L hp), LPost_r2 (PS_L hp), LPost_k2 (PS_L hp), LPost_n2 (PS_L hp), LPost_r4 (PS_L hp), LPost_k4 (PS_L hp), LPost_n4 (PS_L hp), LPost_r5 (PS_L hp), LPost_k5 (PS_L hp), LPost_n5 (PS_L hp), LTown_g (CT_L (QC_T h)), LTown_d (CT_L (QC_T h)), LTown_r6 (CT_L (QC_T h)), LTown_k6 (CT_L (QC_T h)), LTown_n6 (CT_L (QC_T h)), LTown_r7 (CT_L (QC_T h)), LTown_k7 (CT_L (QC_T h)), LTown_n7 (CT_L (QC_T h)), LTown_r8 (CT_L (QC_T h)), LTown_k8 (CT_L (QC_T h)), LTown_n8 (CT_L (QC_T h)), LTown_r9 (CT_L (QC_T h)), LTown_k9 (CT_L (QC_T h)), LTown_n9 (CT_L (QC_T h)), LTown_r10 (CT_L (QC_T h)), LTown_k10 (CT_L (QC_T h)), LTown_n10 (CT_L (QC_T h)), LTown_r11 (CT_L (QC_T h)), LTown_k11 (CT_L (QC_T h)), LTown_n11 (CT_L (QC_T h)), LTown_r12 (CT_L (QC_T h)), LTown_k12 (CT_L (QC_T h)), LTown_n12 (CT_L (QC_T h)), LTown_r13 (CT_L (QC_T h)), LTown_k13 (CT_L (QC_T h)), LTown_n13 (CT_L (QC_T h)), LTown_r14 (CT_L (QC_T h)), LTown_k14 (CT_L (QC_T h)), LTown_n14 (CT_L (QC_T h)), LTown_r15 (CT_L (QC_T h)), LTown_k15 (CT_L (QC_T h)), LTown_n15 (CT_L (QC_T h)), LTown_r16 (CT_L (QC_T h)), LTown_k16 (CT_L (QC_T h)), LTown_n16 (CT_L (QC_T h)), LTown_r17 (CT_L (QC_T h)), LTown_k17 (CT_L (QC_T h)), LTown_n17 (CT_L (QC_T h)), LTown_r18 (CT_L (QC_T h)), LTown_k18 (CT_L (QC_T h)), LTown_n18 (CT_L (QC_T h)), CT_1 (QC_T h), PS_p hp, PS_dp hp, n2]
    try simp (disch := omega) only [ii_lt, ii_le, ii_eq, ii_eq0, ii_lt0, ii_0lt, ii_le0, ii_0le, i_inT, i_natN, i_nat, ia_div, ia_rem, hs_ofI, i_1shl, i_or, i_bit, true_and, and_true, not_true_eq_false, not_false_eq_true, true_implies, false_implies, implies_true, Int.reduceLT, Int.reduceLE, Int.reduceEq, Int.reduceNeg, Int.toNat_natCast, Int.reduceToNat, Nat.reduceLeDiff, Nat.reduceAdd, tn_2, tn_2p, tn_48, tn_48r, tn_3, tn_3p, tn_3q, tn_p1, tn_d2, tn_12, ia_add, ia_sub, ia_mul]
    refine ⟨fun c1 => ?_, fun c1 => ?_⟩
    · rw [show i = 2 * nS T from by omega]
      exact hQ
    · have ih := ih (by omega)
      rw [om_s] at ih
      have hbt := (QC_S h).2.1 c (by omega) i
      try simp (disch := omega) only [ii_lt, ii_le, ii_eq, ii_eq0, ii_lt0, ii_0lt, ii_le0, ii_0le, i_inT, i_natN, i_nat, ia_div, ia_rem, hs_ofI, i_1shl, i_or, i_bit, true_and, and_true, not_true_eq_false, not_false_eq_true, true_implies, false_implies, implies_true, Int.reduceLT, Int.reduceLE, Int.reduceEq, Int.reduceNeg, Int.toNat_natCast, Int.reduceToNat, Nat.reduceLeDiff, Nat.reduceAdd, tn_2, tn_2p, tn_48, tn_48r, tn_3, tn_3p, tn_3q, tn_p1, tn_d2, tn_12, ia_add, ia_sub, ia_mul, hbt]
      try simp only [hbt]
      try refine ⟨by omega, ?_⟩
      refine ⟨fun c2 => ?_, fun c2 => ?_⟩
      · have e : tC T (nx T r) c a i = none := by
          unfold tC
          rw [if_neg]
          intro z
          rw [z.1, decide_eq_true z.2] at c2
          cases c2
        rw [e, ol_nr] at ih
        first | exact ih | exact zjf rfl (ih)
      · rw [Bool.and_eq_true, decide_eq_true_eq] at c2
        have hm := hM a i ha (by omega)
        try simp (disch := omega) only [ii_lt, ii_le, ii_eq, ii_eq0, ii_lt0, ii_0lt, ii_le0, ii_0le, i_inT, i_natN, i_nat, ia_div, ia_rem, hs_ofI, i_1shl, i_or, i_bit, true_and, and_true, not_true_eq_false, not_false_eq_true, true_implies, false_implies, implies_true, Int.reduceLT, Int.reduceLE, Int.reduceEq, Int.reduceNeg, Int.toNat_natCast, Int.reduceToNat, Nat.reduceLeDiff, Nat.reduceAdd, tn_2, tn_2p, tn_48, tn_48r, tn_3, tn_3p, tn_3q, tn_p1, tn_d2, tn_12, ia_add, ia_sub, ia_mul, hm]
        try simp only [hm]
        try refine ⟨by omega, ?_⟩
        have e : tC T (nx T r) c a i = mI T (nx T r) (2 * nS T) a i := by
          unfold tC
          rw [if_pos c2]
        have hmb : fr 268435456 (mI T (nx T r) (2 * nS T) a i) ≤ 268435456 := fr_b (fun x hx => by have := mI_b hw nx_A hx; omega)
        have := mn_ol (o1 := om (tC T (nx T r) c a) i) (o2 := tC T (nx T r) c a i) (V := fr 268435456 (mI T (nx T r) (2 * nS T) a i)) (fun x hx => by have := hob i x hx; omega) (fun y hy => ⟨by rw [e] at hy; rw [hy]; rfl, by have := hb i y hy; omega⟩) (fun hn => by rw [e] at hn; rw [hn]; exact Nat.le_refl _) (by omega)
        rw [this]
        first | exact ih | exact zjf rfl (ih)
  first | exact (key 0 (by omega)) | exact zjf rfl ((key 0 (by omega)))
/-- bounds of the least rides -/
theorem cp_N {p : Nat → Bool} {n v : Nat} (hv : v < n) (hp : p v = true) : cp p v < cp p n := by
  have := cp_le2 (p := p) (show v + 1 ≤ n from hv)
  rw [cp_t hp] at this
  omega
theorem xor_bit {u t j : Nat} : (u ^^^ 2 ^ t).testBit j = (u.testBit j ^^ decide (t = j)) := by rw [Nat.testBit_xor, Nat.testBit_two_pow]
theorem xor_or {u t : Nat} (h : u.testBit t = true) : (u ^^^ 2 ^ t) ||| 2 ^ t = u ∧ (u ^^^ 2 ^ t).testBit t = false ∧ u ^^^ 2 ^ t < u := by
  have h2 : (u ^^^ 2 ^ t).testBit t = false := by rw [xor_bit, h, decide_eq_true rfl]; rfl
  have h1 : (u ^^^ 2 ^ t) ||| 2 ^ t = u := by
    apply Nat.eq_of_testBit_eq
    intro j
    rw [Nat.testBit_or, xor_bit, Nat.testBit_two_pow]
    by_cases e : t = j
    · rw [← e, h, decide_eq_true rfl]
      rfl
    · rw [decide_eq_false e]
      cases u.testBit j <;> rfl
  refine ⟨h1, h2, ?_⟩
  have h3 : u ^^^ 2 ^ t ≤ (u ^^^ 2 ^ t) ||| 2 ^ t := Nat.left_le_or
  rw [h1] at h3
  have h4 : u ^^^ 2 ^ t ≠ u := by
    intro e
    rw [e, h] at h2
    cases h2
  omega
theorem or_xor {s t : Nat} (h : s.testBit t = false) : (s ||| 2 ^ t) ^^^ 2 ^ t = s := by
  apply Nat.eq_of_testBit_eq
  intro j
  rw [xor_bit, Nat.testBit_or, Nat.testBit_two_pow]
  by_cases e : t = j
  · rw [← e, h, decide_eq_true rfl]
    rfl
  · rw [decide_eq_false e]
    cases s.testBit j <;> rfl
theorem rDD_b {T : Tw} {R : Nat → Nat → Bool} {p : Nat → Bool} {c N : Nat} (hw : wf T) (hR : ∀ a b, R a b = true → isA T a = true ∧ isA T b = true) (hN : N = cp p (nC T)) (hN32 : N ≤ 32) : ∀ u, u < 2 ^ N → ∀ a x, isA T a = true → p (en T a) = true → u.testBit (cp p (en T a)) = true → rDD T R p c u a = some x → x ≤ 5000 * cn u 32 := by
  intro u
  induction u using Nat.strongRecOn with
  | ind u ih =>
    intro hu a x ha hp hb hx
    have hcN := cp_N (wf_bg hw (isA_lt ha)).2.1 hp
    obtain ⟨g1, g2, g3⟩ := xor_or hb
    by_cases h0 : u ^^^ 2 ^ cp p (en T a) = 0
    · rw [h0, Nat.zero_or] at g1
      rw [← g1] at hx
      rw [rDD_one hR ha hp] at hx
      have h1 := om_b (fC_b (T := T) (R := R) (c := c) (a := a) hw hR) _ _ hx
      have h2 : cn u 32 = 0 + 1 := by
        rw [← g1, ← Nat.zero_or (2 ^ cp p (en T a)), cn_or (by omega) (Nat.zero_testBit _)]
        rfl
      omega
    · rw [← g1, rDD_step (E := eN T p N) (ea := eA T p) hR hp h0 g2 (fun b b1 b2 b3 => eA_ex hw b1 b2 (by rw [hN]; exact cp_N (wf_bg hw (isA_lt b1)).2.1 b2)) _ (fun i hi => rfl)] at hx
      obtain ⟨i, i1, i2⟩ := om_ls.1 x hx
      obtain ⟨y, z, y1, y2, y3⟩ := oa_ex i2
      obtain ⟨e1, e2, e3, e4⟩ := eA_ok i1
      split at y1
      · rename_i hs
        have h1 := ih _ g3 (by omega) _ _ e1 e2 hs y1
        have h2 := mI_b hw hR y2
        have h3 := cn_or (k := u ^^^ 2 ^ cp p (en T a)) (b := cp p (en T a)) (by omega) g2
        rw [g1] at h3
        omega
      · cases y1
