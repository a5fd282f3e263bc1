/-! THE TAPE, IMAGES -/
/-- the byte of a number -/
def byn (x : Int32) (k : Nat) : Nat := ((x >>> (Int32.ofInt ((24 - 8 * k : Nat) : Int) &&& 31)) &&& Int32.ofInt 255).toNatClampNeg
theorem byn_ok {x : Int32} {k : Nat} : (x >>> (Int32.ofInt ((24 - 8 * k : Nat) : Int) &&& 31)) &&& Int32.ofInt 255 = Int32.ofInt (byn x k) ∧ byn x k < 256 := by
  unfold byn
  generalize x >>> (Int32.ofInt ((24 - 8 * k : Nat) : Int) &&& 31) = y
  have hn : n32 (y &&& Int32.ofInt 255) = n32 y % 256 := by
    rw [n32_and, show n32 (Int32.ofInt 255) = 2 ^ 8 - 1 from by decide, Nat.and_two_pow_sub_one_eq_mod]
  have hl : n32 (y &&& Int32.ofInt 255) < 256 := by
    rw [hn]
    exact Nat.mod_lt _ (by omega)
  have e : y &&& Int32.ofInt 255 = Int32.ofInt (n32 (y &&& Int32.ofInt 255)) := by
    apply Int32.toBitVec.inj
    rw [i_bv]
    apply BitVec.eq_of_toNat_eq
    rw [BitVec.toNat_ofNat, Nat.mod_eq_of_lt (by omega)]
    rfl
  generalize n32 (y &&& Int32.ofInt 255) = v at e hl
  rw [e, i_natN (by omega)]
  exact ⟨rfl, hl⟩
/-- the state while bytes come: cells 16 and 17 alone have changed -/
theorem CI_tape {t n : Nat} {σ : zS} {s : Ab} {g : Nat → Int32} {F : Nat → Nat} (h : CI σ t s) (hn : n ≤ 500) (hg : ∀ j, j < n → g j = Int32.ofInt (F j) ∧ F j < 256) : CI (sI (sA σ 17 g) 16 1 (Int32.ofInt n)) t (sF s F n) := by
  have ht := CI_t h
  have f : fz 16 18 σ (sI (sA σ 17 g) 16 1 (Int32.ofInt n)) := fz_trans (fz_sA (by omega)) (fz_sI (by omega))
  obtain ⟨p, b, hp⟩ := CI_p h
  obtain ⟨w1, w2, w3⟩ := CI_v h
  refine ⟨⟨hn, fun j hj => (hg j hj).2, w3⟩, LA_fz f (CI_A h), ⟨CT_sm (CI_T h) (fun k hk => fz_sm f (by omega)), CI_3 h, CI_4 h⟩, CS_sm (CI_S h) (fun k hk => fz_sm f (by omega)), ?_, ?_, ⟨?_, ?_⟩, CU_fz f (by omega) (CI_U h), ⟨?_, fun j hj => ?_, ?_⟩, ?_, ⟨p, b, PS_fs (fs_z f) hp⟩, ?_, CI_g h⟩
  · have := CI_l h
    unfold CLf at this ⊢
    rw [fz_I f (by omega), fz_A f (by omega)]
    exact this
  · have := CI_H h
    unfold CH at this ⊢
    rw [fz_B f (by omega), fz_B f (by omega)]
    exact this
  · rw [fz_I f (by omega)]
    exact CI_n h
  · have := CI_L h
    unfold CL at this ⊢
    rw [fz_A f (by omega), fz_A f (by omega), fz_A f (by omega)]
    exact this
  · rw [gI_sI, if_pos ⟨rfl, rfl⟩]
    rfl
  · rw [gA_sI, gA_self]
    exact (hg j hj).1
  · rw [gI_sI, if_neg (by omega)]
    exact CI_P h
  · have := CI_M h
    unfold CM at this ⊢
    rw [fz_I f (by omega), fz_A f (by omega), fz_A f (by omega), fz_A f (by omega)]
    exact this
  · rw [fz_I f (by omega)]
    exact CI_q h
def s_put (s : Ab) (x : Int32) : Ab := sF s (fun j => if xN s ≤ j ∧ j < xN s + 4 then byn x (j - xN s) else xF s j) (xN s + 4)
theorem u_putN {σ : zS} {t : Nat} {s : Ab} {x : Int32} {Q : zQ} (h : CI σ t s) (hn : xN s + 4 ≤ 500) (hQ : ∀ τ, fw 16 88 σ τ → CI τ t (s_put s x) → Q (.inl none) (hOf τ)) : zW zP 13 [.ref 16, .int x] (hOf σ) Q := by
  have lM := LA_Main (CI_A h)
  rw [zWE]
  simp -implicitDefEqProofs only [zx_iconst, zx_bipush, zx_sipush, zx_lconst, zx_ldc, zx_ldcS, zx_ldc_w, zx_ldc2_w, zx_iload, zx_lload, zx_aload, zx_istore_n, zx_istore, zx_lstore_n, zx_lstore, zx_astore_n, zx_astore, zx_iinc, zx_iadd, zx_isub, zx_imul, zx_iand, zx_ior, zx_ixor, zx_ishl, zx_ishr, zx_iushr, zx_idiv, zx_irem, zx_ineg, zx_ladd, zx_lsub, zx_land, zx_lor, zx_lxor, zx_lneg, zx_lshl, zx_lushr, zx_i2l, zx_l2i, zx_lcmp, zx_dup, zx_dup2, zx_pop, zx_goto, zx_if_eq, zx_if_ne, zx_if_lt, zx_if_ge, zx_if_gt, zx_if_le, zx_icmp_eq, zx_icmp_ne, zx_icmp_lt, zx_icmp_ge, zx_icmp_gt, zx_icmp_le, zx_getfield, zx_putfield, zx_iaload, zx_laload, zx_aaload, zx_iastore, zx_lastore, zx_arraylength, zx_ireturn, zx_lreturn, zx_areturn, zx_return, zx_athrow, zx_static0, zx_static1, zx_virt1, zx_static2, zx_virt2, zx_static3, zx_virt3, zx_static4, zx_virt4, zx_static5, zx_virt5, zx_static6, zx_virt6, zx_static7, zx_virt7, zx_cpI, zx_cpL, ↓cpI, ↓cpL, zx_slen, zx_schr, zx_tsw, zx_spec3, new_X, zx_new1, zrun_nil, zrun_cons, ↓zgi_h, ↓zgi_n, ↓zgl_h, ↓zgl_n, ↓zgr_h, ↓zgr_n, zset1, zset2, zins_nil, zins_c, f3, cat_i, cat_l, cat_r, List.filter_cons, List.filter_nil, Bool.false_eq_true, l_of0, lv_args, Nat.reduceBEq, Nat.reduceAdd, Nat.reduceLeDiff, Nat.reduceLT, Bool.not_true, Bool.not_false, Bool.and_true, Bool.true_and, Bool.and_false, Bool.false_and, Nat.reduceEqDiff, reduceIte, List.contains_cons, List.contains_nil, Bool.or_false, Bool.or_true, Bool.false_or, Bool.true_or, Fin.isValue, Fin.val_zero, Fin.val_one, Fin.val_two, Fin.reduceFinMk, Option.toList_some, Option.toList_none, List.nil_append, List.cons_append, zwt_nil, zwt_i, zwt_l, zwt_r, zthr_nil, List.isEmpty_nil, zcE, ↓ar_k, lgc0, true_and, and_true, true_implies, implies_true, false_implies, forall_const, i_len, ob_0, ob_1, ↓bI_01, bI_0, not_true_eq_false, not_false_eq_true, Bool.not_eq_false, Bool.not_eq_true, ia_add, ia_sub, ia_mul, ia_neg, ↓ldI, ↓ldL, zaI_c, zaL_c, ↓zlen_I, ↓zlen_L, ↓stI, ↓stL, gD_sI, gN_sI, gI_sI, gJ_sI, gR_sI, gA_sI, gB_sI, gT_sI, gD_sJ, gN_sJ, gI_sJ, gJ_sJ, gR_sJ, gA_sJ, gB_sJ, gT_sJ, gD_sR, gN_sR, gI_sR, gJ_sR, gR_sR, gA_sR, gB_sR, gT_sR, gD_sA, gN_sA, gI_sA, gJ_sA, gR_sA, gA_sA, gB_sA, gT_sA, gD_sB, gN_sB, gI_sB, gJ_sB, gR_sB, gA_sB, gB_sB, gT_sB, zx_il0, zx_il1, zx_il2, zx_il3, zx_ll0, zx_ll1, zx_ll2, zx_ll3, zx_al0, zx_al1, zx_al2, zx_al3, e_has, e_bA, e_mn, e_mx, e_pcI, e_pcL, e_low, zml_13, zg13_0, zb13_0, zb13_3, zg13_45, zb13_45, zg13_51, zb13_51, zmc_13, zms_13, zow_13, zhd_13, ↓gf_10_0, ↓gf_10_1, ↓pp_10_1, ↓pq_10_1, ↓pw_10_1, show (Int16.ofInt 255).toInt32 = Int32.ofInt 255 from rfl, show (Int8.ofInt 24).toInt32 = Int32.ofInt 24 from rfl, show ztg 16 29 = 45 from rfl, show ztg 4 47 = 51 from rfl, show ztg 48 (-45) = 3 from rfl, LMain_d lM, LMain_d17 lM, LMain_n17 lM, LMain_d46 lM, LMain_r0 lM, LMain_r5 lM, LMain_r6 lM, LMain_r7 lM, LMain_r8 lM, LMain_r9 lM, LMain_r10 lM, LMain_r11 lM, LMain_r12 lM, LMain_r13 lM]
  have key : ∀ (d k : Nat) (g : Nat → Int32), k + d = 4 → (∀ j, j < xN s + k → g j = Int32.ofInt (if xN s ≤ j ∧ j < xN s + 4 then byn x (j - xN s) else xF s j : Nat)) → zfp zP (zcall zP 13) 13 Q 3 [(0, .ref 16), (1, .int x), (2, .int (Int32.ofInt (24 - 8 * (k : Int))))] [] (hOf (sI (sA σ 17 g) 16 1 (Int32.ofInt ((xN s + k : Nat) : Int)))) 0 0 := by
    intro d
    induction d with
    | zero =>
      intro k g hk hg
      rw [zg13_3]
      simp -implicitDefEqProofs only [zx_iconst, zx_bipush, zx_sipush, zx_lconst, zx_ldc, zx_ldcS, zx_ldc_w, zx_ldc2_w, zx_iload, zx_lload, zx_aload, zx_istore_n, zx_istore, zx_lstore_n, zx_lstore, zx_astore_n, zx_astore, zx_iinc, zx_iadd, zx_isub, zx_imul, zx_iand, zx_ior, zx_ixor, zx_ishl, zx_ishr, zx_iushr, zx_idiv, zx_irem, zx_ineg, zx_ladd, zx_lsub, zx_land, zx_lor, zx_lxor, zx_lneg, zx_lshl, zx_lushr, zx_i2l, zx_l2i, zx_lcmp, zx_dup, zx_dup2, zx_pop, zx_goto, zx_if_eq, zx_if_ne, zx_if_lt, zx_if_ge, zx_if_gt, zx_if_le, zx_icmp_eq, zx_icmp_ne, zx_icmp_lt, zx_icmp_ge, zx_icmp_gt, zx_icmp_le, zx_getfield, zx_putfield, zx_iaload, zx_laload, zx_aaload, zx_iastore, zx_lastore, zx_arraylength, zx_ireturn, zx_lreturn, zx_areturn, zx_return, zx_athrow, zx_static0, zx_static1, zx_virt1, zx_static2, zx_virt2, zx_static3, zx_virt3, zx_static4, zx_virt4, zx_static5, zx_virt5, zx_static6, zx_virt6, zx_static7, zx_virt7, zx_cpI, zx_cpL, ↓cpI, ↓cpL, zx_slen, zx_schr, zx_tsw, zx_spec3, new_X, zx_new1, zrun_nil, zrun_cons, ↓zgi_h, ↓zgi_n, ↓zgl_h, ↓zgl_n, ↓zgr_h, ↓zgr_n, zset1, zset2, zins_nil, zins_c, f3, cat_i, cat_l, cat_r, List.filter_cons, List.filter_nil, Bool.false_eq_true, l_of0, lv_args, Nat.reduceBEq, Nat.reduceAdd, Nat.reduceLeDiff, Nat.reduceLT, Bool.not_true, Bool.not_false, Bool.and_true, Bool.true_and, Bool.and_false, Bool.false_and, Nat.reduceEqDiff, reduceIte, List.contains_cons, List.contains_nil, Bool.or_false, Bool.or_true, Bool.false_or, Bool.true_or, Fin.isValue, Fin.val_zero, Fin.val_one, Fin.val_two, Fin.reduceFinMk, Option.toList_some, Option.toList_none, List.nil_append, List.cons_append, zwt_nil, zwt_i, zwt_l, zwt_r, zthr_nil, List.isEmpty_nil, zcE, ↓ar_k, lgc0, true_and, and_true, true_implies, implies_true, false_implies, forall_const, i_len, ob_0, ob_1, ↓bI_01, bI_0, not_true_eq_false, not_false_eq_true, Bool.not_eq_false, Bool.not_eq_true, ia_add, ia_sub, ia_mul, ia_neg, ↓ldI, ↓ldL, zaI_c, zaL_c, ↓zlen_I, ↓zlen_L, ↓stI, ↓stL, gD_sI, gN_sI, gI_sI, gJ_sI, gR_sI, gA_sI, gB_sI, gT_sI, gD_sJ, gN_sJ, gI_sJ, gJ_sJ, gR_sJ, gA_sJ, gB_sJ, gT_sJ, gD_sR, gN_sR, gI_sR, gJ_sR, gR_sR, gA_sR, gB_sR, gT_sR, gD_sA, gN_sA, gI_sA, gJ_sA, gR_sA, gA_sA, gB_sA, gT_sA, gD_sB, gN_sB, gI_sB, gJ_sB, gR_sB, gA_sB, gB_sB, gT_sB, zx_il0, zx_il1, zx_il2, zx_il3, zx_ll0, zx_ll1, zx_ll2, zx_ll3, zx_al0, zx_al1, zx_al2, zx_al3, e_has, e_bA, e_mn, e_mx, e_pcI, e_pcL, e_low, zml_13, zg13_0, zb13_0, zb13_3, zg13_45, zb13_45, zg13_51, zb13_51, zmc_13, zms_13, zow_13, zhd_13, ↓gf_10_0, ↓gf_10_1, ↓pp_10_1, ↓pq_10_1, ↓pw_10_1, show (Int16.ofInt 255).toInt32 = Int32.ofInt 255 from rfl, show (Int8.ofInt 24).toInt32 = Int32.ofInt 24 from rfl, show ztg 16 29 = 45 from rfl, show ztg 4 47 = 51 from rfl, show ztg 48 (-45) = 3 from rfl, LMain_d lM, LMain_d17 lM, LMain_n17 lM, LMain_d46 lM, LMain_r0 lM, LMain_r5 lM, LMain_r6 lM, LMain_r7 lM, LMain_r8 lM, LMain_r9 lM, LMain_r10 lM, LMain_r11 lM, LMain_r12 lM, LMain_r13 lM]
      try simp (disch := omega) only [ii_lt, ii_le, ii_eq, ii_eq0, ii_lt0, ii_0lt, ii_le0, ii_0le, i_inT, i_natN, i_nat, ia_div, ia_rem, hs_ofI, i_1shl, i_or, i_bit, true_and, and_true, not_true_eq_false, not_false_eq_true, true_implies, false_implies, implies_true, Int.reduceLT, Int.reduceLE, Int.reduceEq, Int.reduceNeg, Int.toNat_natCast, Int.reduceToNat, Nat.reduceLeDiff, Nat.reduceAdd, tn_2, tn_2p, tn_48, tn_48r, tn_3, tn_3p, tn_3q, tn_p1, tn_d2, tn_12, ia_add, ia_sub, ia_mul]
      refine ⟨fun _ => ?_, fun z => by omega⟩
      have e4 : k = 4 := by omega
      subst e4
      have hC := CI_tape (n := xN s + 4) (F := fun j => if xN s ≤ j ∧ j < xN s + 4 then byn x (j - xN s) else xF s j) h hn (fun j hj => ⟨hg j hj, by
        dsimp only
        split
        · exact byn_ok.2
        · exact (CI_v h).2.1 j (by omega)⟩)
      exact hQ _ (fw_z (fz_trans (fz_sA (lo := 16) (hi := 18) (by omega)) (fz_sI (by omega))) (by omega)) hC
    | succ d ih =>
      intro k g hk hg
      rw [zg13_3]
      simp -implicitDefEqProofs only [zx_iconst, zx_bipush, zx_sipush, zx_lconst, zx_ldc, zx_ldcS, zx_ldc_w, zx_ldc2_w, zx_iload, zx_lload, zx_aload, zx_istore_n, zx_istore, zx_lstore_n, zx_lstore, zx_astore_n, zx_astore, zx_iinc, zx_iadd, zx_isub, zx_imul, zx_iand, zx_ior, zx_ixor, zx_ishl, zx_ishr, zx_iushr, zx_idiv, zx_irem, zx_ineg, zx_ladd, zx_lsub, zx_land, zx_lor, zx_lxor, zx_lneg, zx_lshl, zx_lushr, zx_i2l, zx_l2i, zx_lcmp, zx_dup, zx_dup2, zx_pop, zx_goto, zx_if_eq, zx_if_ne, zx_if_lt, zx_if_ge, zx_if_gt, zx_if_le, zx_icmp_eq, zx_icmp_ne, zx_icmp_lt, zx_icmp_ge, zx_icmp_gt, zx_icmp_le, zx_getfield, zx_putfield, zx_iaload, zx_laload, zx_aaload, zx_iastore, zx_lastore, zx_arraylength, zx_ireturn, zx_lreturn, zx_areturn, zx_return, zx_athrow, zx_static0, zx_static1, zx_virt1, zx_static2, zx_virt2, zx_static3, zx_virt3, zx_static4, zx_virt4, zx_static5, zx_virt5, zx_static6, zx_virt6, zx_static7, zx_virt7, zx_cpI, zx_cpL, ↓cpI, ↓cpL, zx_slen, zx_schr, zx_tsw, zx_spec3, new_X, zx_new1, zrun_nil, zrun_cons, ↓zgi_h, ↓zgi_n, ↓zgl_h, ↓zgl_n, ↓zgr_h, ↓zgr_n, zset1, zset2, zins_nil, zins_c, f3, cat_i, cat_l, cat_r, List.filter_cons, List.filter_nil, Bool.false_eq_true, l_of0, lv_args, Nat.reduceBEq, Nat.reduceAdd, Nat.reduceLeDiff, Nat.reduceLT, Bool.not_true, Bool.not_false, Bool.and_true, Bool.true_and, Bool.and_false, Bool.false_and, Nat.reduceEqDiff, reduceIte, List.contains_cons, List.contains_nil, Bool.or_false, Bool.or_true, Bool.false_or, Bool.true_or, Fin.isValue, Fin.val_zero, Fin.val_one, Fin.val_two, Fin.reduceFinMk, Option.toList_some, Option.toList_none, List.nil_append, List.cons_append, zwt_nil, zwt_i, zwt_l, zwt_r, zthr_nil, List.isEmpty_nil, zcE, ↓ar_k, lgc0, true_and, and_true, true_implies, implies_true, false_implies, forall_const, i_len, ob_0, ob_1, ↓bI_01, bI_0, not_true_eq_false, not_false_eq_true, Bool.not_eq_false, Bool.not_eq_true, ia_add, ia_sub, ia_mul, ia_neg, ↓ldI, ↓ldL, zaI_c, zaL_c, ↓zlen_I, ↓zlen_L, ↓stI, ↓stL, gD_sI, gN_sI, gI_sI, gJ_sI, gR_sI, gA_sI, gB_sI, gT_sI, gD_sJ, gN_sJ, gI_sJ, gJ_sJ, gR_sJ, gA_sJ, gB_sJ, gT_sJ, gD_sR, gN_sR, gI_sR, gJ_sR, gR_sR, gA_sR, gB_sR, gT_sR, gD_sA, gN_sA, gI_sA, gJ_sA, gR_sA, gA_sA, gB_sA, gT_sA, gD_sB, gN_sB, gI_sB, gJ_sB, gR_sB, gA_sB, gB_sB, gT_sB, zx_il0, zx_il1, zx_il2, zx_il3, zx_ll0, zx_ll1, zx_ll2, zx_ll3, zx_al0, zx_al1, zx_al2, zx_al3, e_has, e_bA, e_mn, e_mx, e_pcI, e_pcL, e_low, zml_13, zg13_0, zb13_0, zb13_3, zg13_45, zb13_45, zg13_51, zb13_51, zmc_13, zms_13, zow_13, zhd_13, ↓gf_10_0, ↓gf_10_1, ↓pp_10_1, ↓pq_10_1, ↓pw_10_1, show (Int16.ofInt 255).toInt32 = Int32.ofInt 255 from rfl, show (Int8.ofInt 24).toInt32 = Int32.ofInt 24 from rfl, show ztg 16 29 = 45 from rfl, show ztg 4 47 = 51 from rfl, show ztg 48 (-45) = 3 from rfl, LMain_d lM, LMain_d17 lM, LMain_n17 lM, LMain_d46 lM, LMain_r0 lM, LMain_r5 lM, LMain_r6 lM, LMain_r7 lM, LMain_r8 lM, LMain_r9 lM, LMain_r10 lM, LMain_r11 lM, LMain_r12 lM, LMain_r13 lM, gA_self, sA_sA, sA_sI, sI_sI]
      try simp (disch := omega) only [ii_lt, ii_le, ii_eq, ii_eq0, ii_lt0, ii_0lt, ii_le0, ii_0le, i_inT, i_natN, i_nat, ia_div, ia_rem, hs_ofI, i_1shl, i_or, i_bit, true_and, and_true, not_true_eq_false, not_false_eq_true, true_implies, false_implies, implies_true, Int.reduceLT, Int.reduceLE, Int.reduceEq, Int.reduceNeg, Int.toNat_natCast, Int.reduceToNat, Nat.reduceLeDiff, Nat.reduceAdd, tn_2, tn_2p, tn_48, tn_48r, tn_3, tn_3p, tn_3q, tn_p1, tn_d2, tn_12, ia_add, ia_sub, ia_mul]
      refine ⟨fun z => by omega, fun _ => ⟨fun z => by omega, fun _ => ?_⟩⟩
      try simp (disch := omega) only [ii_lt, ii_le, ii_eq, ii_eq0, ii_lt0, ii_0lt, ii_le0, ii_0le, i_inT, i_natN, i_nat, ia_div, ia_rem, hs_ofI, i_1shl, i_or, i_bit, true_and, and_true, not_true_eq_false, not_false_eq_true, true_implies, false_implies, implies_true, Int.reduceLT, Int.reduceLE, Int.reduceEq, Int.reduceNeg, Int.toNat_natCast, Int.reduceToNat, Nat.reduceLeDiff, Nat.reduceAdd, tn_2, tn_2p, tn_48, tn_48r, tn_3, tn_3p, tn_3q, tn_p1, tn_d2, tn_12, ia_add, ia_sub, ia_mul]
      try refine ⟨by omega, ?_⟩
      have e24 : (24 - 8 * (k : Int)) = ((24 - 8 * k : Nat) : Int) := by omega
      have hb := (byn_ok (x := x) (k := k)).1
      rw [← e24] at hb
      try simp only [hb]
      have := ih (k + 1) (upd g (xN s + k) (Int32.ofInt (byn x k))) (by omega) (fun j hj => by
        by_cases e : j = xN s + k
        · rw [e, upd_s, if_pos (by omega), show xN s + k - xN s = k from by omega]
        · rw [upd_n e]
          exact hg j (by omega))
      rw [show 24 - 8 * ((k + 1 : Nat) : Int) = 24 - 8 * (k : Int) + -8 from by omega] at this
      try simp only [sA_sI, sA_sA, sI_sI]
      first | exact this | exact zjf rfl (this)
  have := key 4 0 (gA σ 17) rfl (fun j hj => by rw [if_neg (by omega)]; exact CI_F h j (by omega))
  rw [sA_same rfl, show sI σ 16 1 (Int32.ofInt ((xN s + 0 : Nat) : Int)) = σ from sI_same (CI_N h).symm] at this
  first | exact this | exact zjf rfl (this)
