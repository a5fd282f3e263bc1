/-! IMAGES -/
def s_keep (s : Ab) : Ab := if xK s < 3 then (s.1, xT s, xH s, xn s, (xU s, xm s), xK s + 1, (fun k => if k = xK s then xn s else xi0 s k), (fun k => if k = xK s then xm s else xi1 s k), (fun k => if k = xK s then xU s else xi2 s k)) else s
def a_keep (s : Ab) : Int := if xK s < 3 then ((xK s + 1 : Nat) : Int) else -1
def s_rest (s : Ab) : Ab := if 0 < xK s then (s.1, xT s, xH s, xi0 s (xK s - 1), (xi2 s (xK s - 1), xi1 s (xK s - 1)), xK s - 1, xi0 s, xi1 s, xi2 s) else s
def a_rest (s : Ab) : Int := if 0 < xK s then ((xK s - 1 : Nat) : Int) else -1
theorem Wv_keep {s : Ab} (h : Wv s) : Wv (s_keep s) := by
  unfold s_keep
  by_cases c : xK s < 3
  · rw [if_pos c]
    obtain ⟨w1, w2, w3, w4, w5, w6, w7, w8, w9, w10⟩ := h
    refine ⟨w1, w2, w3, w4, w5, w6, w7, by show xK s + 1 ≤ 3; omega, fun k hk => ?_, fun k j hkj hj => ?_⟩
    · have hk : k < xK s + 1 := hk
      show (if k = xK s then xn s else xi0 s k) ≤ xn s ∧ (if k = xK s then xm s else xi1 s k) ≤ 12 ∧ ∀ j, j < (if k = xK s then xm s else xi1 s k) → (if k = xK s then xU s else xi2 s k) j < nC (xT s)
      by_cases e : k = xK s
      · rw [if_pos e, if_pos e, if_pos e]
        exact ⟨Nat.le_refl _, w6, w7⟩
      · rw [if_neg e, if_neg e, if_neg e]
        exact w9 k (by omega)
    · have hj : j < xK s + 1 := hj
      show (if k = xK s then xn s else xi0 s k) ≤ (if j = xK s then xn s else xi0 s j)
      by_cases e : j = xK s
      · rw [if_pos e]
        split
        · exact Nat.le_refl _
        · exact (w9 k (by omega)).1
      · rw [if_neg e, if_neg (by omega)]
        exact w10 k j hkj (by omega)
  · rw [if_neg c]
    exact h
theorem Wv_rest {s : Ab} (h : Wv s) : Wv (s_rest s) := by
  unfold s_rest
  by_cases c : 0 < xK s
  · rw [if_pos c]
    obtain ⟨w1, w2, w3, w4, w5, w6, w7, w8, w9, w10⟩ := h
    obtain ⟨y1, y2, y3⟩ := w9 (xK s - 1) (by omega)
    refine ⟨w1, w2, w3, w4, by show xi0 s (xK s - 1) ≤ 200; omega, y2, y3, by show xK s - 1 ≤ 3; omega, fun k hk => ?_, fun k j hkj hj => ?_⟩
    · have hk : k < xK s - 1 := hk
      exact ⟨w10 k (xK s - 1) (by omega) (by omega), (w9 k (by omega)).2⟩
    · have hj : j < xK s - 1 := hj
      exact w10 k j hkj (by omega)
  · rw [if_neg c]
    exact h
theorem u_keep {σ : zS} {t : Nat} {s : Ab} {Q : zQ} (h : CI σ t s) (hQ : ∀ τ, fw 16 88 σ τ → CI τ t (s_keep s) → Q (.inl (some (.int (Int32.ofInt (a_keep s))))) (hOf τ)) : zW zP 16 [.ref 84, .ref 48, .ref 79] (hOf σ) Q := by
  have ht := CI_t h
  have hv := Wv_keep (CI_v h)
  have hK := (CI_v h).2.2.2.2.2.2.2.1
  have lI := LA_Images (CI_A h)
  have lS := LA_Story (CI_A h)
  have lC := LA_Changes (CI_A h)
  rw [zWE]
  simp -implicitDefEqProofs only [zx_iconst, zx_bipush, zx_sipush, zx_lconst, zx_ldc, zx_ldcS, zx_ldc_w, zx_ldc2_w, zx_iload, zx_lload, zx_aload, zx_istore_n, zx_istore, zx_lstore_n, zx_lstore, zx_astore_n, zx_astore, zx_iinc, zx_iadd, zx_isub, zx_imul, zx_iand, zx_ior, zx_ixor, zx_ishl, zx_ishr, zx_iushr, zx_idiv, zx_irem, zx_ineg, zx_ladd, zx_lsub, zx_land, zx_lor, zx_lxor, zx_lneg, zx_lshl, zx_lushr, zx_i2l, zx_l2i, zx_lcmp, zx_dup, zx_dup2, zx_pop, zx_goto, zx_if_eq, zx_if_ne, zx_if_lt, zx_if_ge, zx_if_gt, zx_if_le, zx_icmp_eq, zx_icmp_ne, zx_icmp_lt, zx_icmp_ge, zx_icmp_gt, zx_icmp_le, zx_getfield, zx_putfield, zx_iaload, zx_laload, zx_aaload, zx_iastore, zx_lastore, zx_arraylength, zx_ireturn, zx_lreturn, zx_areturn, zx_return, zx_athrow, zx_static0, zx_static1, zx_virt1, zx_static2, zx_virt2, zx_static3, zx_virt3, zx_static4, zx_virt4, zx_static5, zx_virt5, zx_static6, zx_virt6, zx_static7, zx_virt7, zx_cpI, zx_cpL, ↓cpI, ↓cpL, zx_slen, zx_schr, zx_tsw, zx_spec3, new_X, zx_new1, zrun_nil, zrun_cons, ↓zgi_h, ↓zgi_n, ↓zgl_h, ↓zgl_n, ↓zgr_h, ↓zgr_n, zset1, zset2, zins_nil, zins_c, f3, cat_i, cat_l, cat_r, List.filter_cons, List.filter_nil, Bool.false_eq_true, l_of0, lv_args, Nat.reduceBEq, Nat.reduceAdd, Nat.reduceLeDiff, Nat.reduceLT, Bool.not_true, Bool.not_false, Bool.and_true, Bool.true_and, Bool.and_false, Bool.false_and, Nat.reduceEqDiff, reduceIte, List.contains_cons, List.contains_nil, Bool.or_false, Bool.or_true, Bool.false_or, Bool.true_or, Fin.isValue, Fin.val_zero, Fin.val_one, Fin.val_two, Fin.reduceFinMk, Option.toList_some, Option.toList_none, List.nil_append, List.cons_append, zwt_nil, zwt_i, zwt_l, zwt_r, zthr_nil, List.isEmpty_nil, zcE, ↓ar_k, lgc0, true_and, and_true, true_implies, implies_true, false_implies, forall_const, i_len, ob_0, ob_1, ↓bI_01, bI_0, not_true_eq_false, not_false_eq_true, Bool.not_eq_false, Bool.not_eq_true, ia_add, ia_sub, ia_mul, ia_neg, ↓ldI, ↓ldL, zaI_c, zaL_c, ↓zlen_I, ↓zlen_L, ↓stI, ↓stL, gD_sI, gN_sI, gI_sI, gJ_sI, gR_sI, gA_sI, gB_sI, gT_sI, gD_sJ, gN_sJ, gI_sJ, gJ_sJ, gR_sJ, gA_sJ, gB_sJ, gT_sJ, gD_sR, gN_sR, gI_sR, gJ_sR, gR_sR, gA_sR, gB_sR, gT_sR, gD_sA, gN_sA, gI_sA, gJ_sA, gR_sA, gA_sA, gB_sA, gT_sA, gD_sB, gN_sB, gI_sB, gJ_sB, gR_sB, gA_sB, gB_sB, gT_sB, zx_il0, zx_il1, zx_il2, zx_il3, zx_ll0, zx_ll1, zx_ll2, zx_ll3, zx_al0, zx_al1, zx_al2, zx_al3, e_has, e_bA, e_mn, e_mx, e_pcI, e_pcL, e_low, zml_16, zg16_0, zb16_0, zg16_10, zb16_10, zmc_16, zms_16, zow_16, zhd_16, ↓gf_0_0, ↓gf_2_0, ↓gf_2_1, ↓gf_2_2, ↓gf_2_3, ↓gf_7_0, ↓gf_7_1, ↓pp_2_0, ↓pq_2_0, ↓pw_2_0, show (Int8.ofInt 12).toInt32 = Int32.ofInt 12 from rfl, show ztg 5 5 = 10 from rfl, LImages_d lI, LImages_r1 lI, LImages_k1 lI, LImages_n1 lI, LImages_r2 lI, LImages_k2 lI, LImages_n2 lI, LImages_r3 lI, LImages_k3 lI, LImages_n3 lI, LStory_d lS, LStory_r1 lS, LStory_k1 lS, LStory_n1 lS, LStory_r2 lS, LStory_k2 lS, LStory_n2 lS, LStory_r3 lS, LStory_k3 lS, LStory_n3 lS, LStory_r4 lS, LStory_k4 lS, LStory_n4 lS, LChanges_d lC, LChanges_r1 lC, LChanges_k1 lC, LChanges_n1 lC, LChanges_r2 lC, LChanges_k2 lC, LChanges_n2 lC, LChanges_r3 lC, LChanges_k3 lC, LChanges_n3 lC, CI_n h, (CI_U h).1, (CI_M h).1]
  try simp (disch := omega) only [ii_lt, ii_le, ii_eq, ii_eq0, ii_lt0, ii_0lt, ii_le0, ii_0le, i_inT, i_natN, i_nat, ia_div, ia_rem, hs_ofI, i_1shl, i_or, i_bit, true_and, and_true, not_true_eq_false, not_false_eq_true, true_implies, false_implies, implies_true, Int.reduceLT, Int.reduceLE, Int.reduceEq, Int.reduceNeg, Int.toNat_natCast, Int.reduceToNat, Nat.reduceLeDiff, Nat.reduceAdd, tn_2, tn_2p, tn_48, tn_48r, tn_3, tn_3p, tn_3q, tn_p1, tn_d2, tn_12, ia_add, ia_sub, ia_mul]
  unfold s_keep a_keep at *
  by_cases c : xK s < 3
  rotate_left 1
  · rw [if_neg c, if_neg c] at hQ
    refine ⟨fun z => by omega, fun _ => ?_⟩
    exact hQ σ fw_refl h
  rw [if_pos c, if_pos c] at hQ
  rw [if_pos c] at hv
  refine ⟨fun _ => ⟨?_, ?_, by omega, by omega, ?_⟩, fun z => by omega⟩
  · try simp (disch := omega) only [ii_lt, ii_le, ii_eq, ii_eq0, ii_lt0, ii_0lt, ii_le0, ii_0le, i_inT, i_natN, i_nat, ia_div, ia_rem, hs_ofI, i_1shl, i_or, i_bit, true_and, and_true, not_true_eq_false, not_false_eq_true, true_implies, false_implies, implies_true, Int.reduceLT, Int.reduceLE, Int.reduceEq, Int.reduceNeg, Int.toNat_natCast, Int.reduceToNat, Nat.reduceLeDiff, Nat.reduceAdd, tn_2, tn_2p, tn_48, tn_48r, tn_3, tn_3p, tn_3q, tn_p1, tn_d2, tn_12, ia_add, ia_sub, ia_mul]
    try omega
  · try simp (disch := omega) only [ii_lt, ii_le, ii_eq, ii_eq0, ii_lt0, ii_0lt, ii_le0, ii_0le, i_inT, i_natN, i_nat, ia_div, ia_rem, hs_ofI, i_1shl, i_or, i_bit, true_and, and_true, not_true_eq_false, not_false_eq_true, true_implies, false_implies, implies_true, Int.reduceLT, Int.reduceLE, Int.reduceEq, Int.reduceNeg, Int.toNat_natCast, Int.reduceToNat, Nat.reduceLeDiff, Nat.reduceAdd, tn_2, tn_2p, tn_48, tn_48r, tn_3, tn_3p, tn_3q, tn_p1, tn_d2, tn_12, ia_add, ia_sub, ia_mul]
    try omega
  · have g : fz 84 88 σ (sI (sA (sA (sA σ 85 (upd (gA σ 85) (xK s) (Int32.ofInt ((xn s : Nat) : Int)))) 86 (upd (gA σ 86) (xK s) (Int32.ofInt ((xm s : Nat) : Int)))) 87 (va_cpy (gA σ 80) (gA σ 87) 0 (xK s * 12) 12)) 84 0 (Int32.ofInt (((xK s : Nat) : Int) + 1))) := fz_trans (fz_trans (fz_trans (fz_sA (by omega)) (fz_sA (by omega))) (fz_sA (by omega))) (fz_sI (by omega))
    have hU := CI_U h
    have := hQ _ (fw_z g (by omega)) (CI_up g (by omega) hv h rfl rfl (show CH _ t (xH s) from (CI_st g (by omega) h).1) (show _ = Int32.ofInt (xn s) from (CI_st g (by omega) h).2.1) (show CL _ (xH s) (xn s) from (CI_st g (by omega) h).2.2) (CU_fz g (by omega) (CI_U h)) ⟨?_, fun k hk => ?_⟩ rfl)
    · first | exact this | exact zjf rfl (this)
    · rw [gI_sI, if_pos ⟨rfl, rfl⟩]
      rfl
    · have hk : k < xK s + 1 := hk
      show _ = Int32.ofInt ((if k = xK s then xn s else xi0 s k : Nat) : Int) ∧ _ = Int32.ofInt ((if k = xK s then xm s else xi1 s k : Nat) : Int) ∧ ∀ j, j < (if k = xK s then xm s else xi1 s k) → _ = Int32.ofInt (((if k = xK s then xU s else xi2 s k) j : Nat) : Int)
      rw [gA_sI, gA_self]
      have q85 : gA (sA (sA (sA σ 85 (upd (gA σ 85) (xK s) (Int32.ofInt ((xn s : Nat) : Int)))) 86 (upd (gA σ 86) (xK s) (Int32.ofInt ((xm s : Nat) : Int)))) 87 (va_cpy (gA σ 80) (gA σ 87) 0 (xK s * 12) 12)) 85 = upd (gA σ 85) (xK s) (Int32.ofInt ((xn s : Nat) : Int)) := by
        rw [gA_sA, if_neg (by omega), gA_sA, if_neg (by omega), gA_self]
      have q86 : gA (sA (sA (sA σ 85 (upd (gA σ 85) (xK s) (Int32.ofInt ((xn s : Nat) : Int)))) 86 (upd (gA σ 86) (xK s) (Int32.ofInt ((xm s : Nat) : Int)))) 87 (va_cpy (gA σ 80) (gA σ 87) 0 (xK s * 12) 12)) 86 = upd (gA σ 86) (xK s) (Int32.ofInt ((xm s : Nat) : Int)) := by
        rw [gA_sA, if_neg (by omega), gA_self]
      rw [q85, q86]
      by_cases e : k = xK s
      · rw [if_pos e, if_pos e, if_pos e, e, upd_s, upd_s]
        refine ⟨rfl, rfl, fun j hj => ?_⟩
        have hm12 : xm s ≤ 12 := hU.2.1
        unfold va_cpy
        rw [if_pos (by omega), show 0 + (xK s * 12 + j - xK s * 12) = j from by omega]
        exact (hU.2.2 j hj).1
      · rw [if_neg e, if_neg e, if_neg e, upd_n e, upd_n e]
        obtain ⟨m1, m2, m3⟩ := (CI_M h).2 k (by omega)
        obtain ⟨_, y2, _⟩ := (CI_v h).2.2.2.2.2.2.2.2.1 k (by omega)
        refine ⟨m1, m2, fun j hj => ?_⟩
        unfold va_cpy
        rw [if_neg (by omega)]
        exact m3 j hj
theorem k_image {σ : zS} {t : Nat} {s : Ab} {Q : zQ} (h : CI σ t s) (hQ : ∀ τ, fw 16 88 σ τ → CI τ t (s_keep s) → Q (.inl (some (.int (Int32.ofInt (a_keep s))))) (hOf τ)) : zW zP 17 [.ref 16] (hOf σ) Q := by
  have lM := LA_Main (CI_A h)
  rw [zWE]
  simp -implicitDefEqProofs only [zx_iconst, zx_bipush, zx_sipush, zx_lconst, zx_ldc, zx_ldcS, zx_ldc_w, zx_ldc2_w, zx_iload, zx_lload, zx_aload, zx_istore_n, zx_istore, zx_lstore_n, zx_lstore, zx_astore_n, zx_astore, zx_iinc, zx_iadd, zx_isub, zx_imul, zx_iand, zx_ior, zx_ixor, zx_ishl, zx_ishr, zx_iushr, zx_idiv, zx_irem, zx_ineg, zx_ladd, zx_lsub, zx_land, zx_lor, zx_lxor, zx_lneg, zx_lshl, zx_lushr, zx_i2l, zx_l2i, zx_lcmp, zx_dup, zx_dup2, zx_pop, zx_goto, zx_if_eq, zx_if_ne, zx_if_lt, zx_if_ge, zx_if_gt, zx_if_le, zx_icmp_eq, zx_icmp_ne, zx_icmp_lt, zx_icmp_ge, zx_icmp_gt, zx_icmp_le, zx_getfield, zx_putfield, zx_iaload, zx_laload, zx_aaload, zx_iastore, zx_lastore, zx_arraylength, zx_ireturn, zx_lreturn, zx_areturn, zx_return, zx_athrow, zx_static0, zx_static1, zx_virt1, zx_static2, zx_virt2, zx_static3, zx_virt3, zx_static4, zx_virt4, zx_static5, zx_virt5, zx_static6, zx_virt6, zx_static7, zx_virt7, zx_cpI, zx_cpL, ↓cpI, ↓cpL, zx_slen, zx_schr, zx_tsw, zx_spec3, new_X, zx_new1, zrun_nil, zrun_cons, ↓zgi_h, ↓zgi_n, ↓zgl_h, ↓zgl_n, ↓zgr_h, ↓zgr_n, zset1, zset2, zins_nil, zins_c, f3, cat_i, cat_l, cat_r, List.filter_cons, List.filter_nil, Bool.false_eq_true, l_of0, lv_args, Nat.reduceBEq, Nat.reduceAdd, Nat.reduceLeDiff, Nat.reduceLT, Bool.not_true, Bool.not_false, Bool.and_true, Bool.true_and, Bool.and_false, Bool.false_and, Nat.reduceEqDiff, reduceIte, List.contains_cons, List.contains_nil, Bool.or_false, Bool.or_true, Bool.false_or, Bool.true_or, Fin.isValue, Fin.val_zero, Fin.val_one, Fin.val_two, Fin.reduceFinMk, Option.toList_some, Option.toList_none, List.nil_append, List.cons_append, zwt_nil, zwt_i, zwt_l, zwt_r, zthr_nil, List.isEmpty_nil, zcE, ↓ar_k, lgc0, true_and, and_true, true_implies, implies_true, false_implies, forall_const, i_len, ob_0, ob_1, ↓bI_01, bI_0, not_true_eq_false, not_false_eq_true, Bool.not_eq_false, Bool.not_eq_true, ia_add, ia_sub, ia_mul, ia_neg, ↓ldI, ↓ldL, zaI_c, zaL_c, ↓zlen_I, ↓zlen_L, ↓stI, ↓stL, gD_sI, gN_sI, gI_sI, gJ_sI, gR_sI, gA_sI, gB_sI, gT_sI, gD_sJ, gN_sJ, gI_sJ, gJ_sJ, gR_sJ, gA_sJ, gB_sJ, gT_sJ, gD_sR, gN_sR, gI_sR, gJ_sR, gR_sR, gA_sR, gB_sR, gT_sR, gD_sA, gN_sA, gI_sA, gJ_sA, gR_sA, gA_sA, gB_sA, gT_sA, gD_sB, gN_sB, gI_sB, gJ_sB, gR_sB, gA_sB, gB_sB, gT_sB, zx_il0, zx_il1, zx_il2, zx_il3, zx_ll0, zx_ll1, zx_ll2, zx_ll3, zx_al0, zx_al1, zx_al2, zx_al3, e_has, e_bA, e_mn, e_mx, e_pcI, e_pcL, e_low, zml_17, zg17_0, zb17_0, zmc_16, zms_16, zow_16, zhd_16, zmc_17, zms_17, zow_17, zhd_17, ↓gf_10_12, ↓gf_10_13, ↓gf_10_6, ↓gv_2, LMain_d lM, LMain_d17 lM, LMain_n17 lM, LMain_d46 lM, LMain_r0 lM, LMain_r5 lM, LMain_r6 lM, LMain_r7 lM, LMain_r8 lM, LMain_r9 lM, LMain_r10 lM, LMain_r11 lM, LMain_r12 lM, LMain_r13 lM, LImages_d (LA_Images (CI_A h)), LImages_r1 (LA_Images (CI_A h)), LImages_k1 (LA_Images (CI_A h)), LImages_n1 (LA_Images (CI_A h)), LImages_r2 (LA_Images (CI_A h)), LImages_k2 (LA_Images (CI_A h)), LImages_n2 (LA_Images (CI_A h)), LImages_r3 (LA_Images (CI_A h)), LImages_k3 (LA_Images (CI_A h)), LImages_n3 (LA_Images (CI_A h))]
  refine u_keep h (fun τ f hC => ?_)
  simp -implicitDefEqProofs only [zx_iconst, zx_bipush, zx_sipush, zx_lconst, zx_ldc, zx_ldcS, zx_ldc_w, zx_ldc2_w, zx_iload, zx_lload, zx_aload, zx_istore_n, zx_istore, zx_lstore_n, zx_lstore, zx_astore_n, zx_astore, zx_iinc, zx_iadd, zx_isub, zx_imul, zx_iand, zx_ior, zx_ixor, zx_ishl, zx_ishr, zx_iushr, zx_idiv, zx_irem, zx_ineg, zx_ladd, zx_lsub, zx_land, zx_lor, zx_lxor, zx_lneg, zx_lshl, zx_lushr, zx_i2l, zx_l2i, zx_lcmp, zx_dup, zx_dup2, zx_pop, zx_goto, zx_if_eq, zx_if_ne, zx_if_lt, zx_if_ge, zx_if_gt, zx_if_le, zx_icmp_eq, zx_icmp_ne, zx_icmp_lt, zx_icmp_ge, zx_icmp_gt, zx_icmp_le, zx_getfield, zx_putfield, zx_iaload, zx_laload, zx_aaload, zx_iastore, zx_lastore, zx_arraylength, zx_ireturn, zx_lreturn, zx_areturn, zx_return, zx_athrow, zx_static0, zx_static1, zx_virt1, zx_static2, zx_virt2, zx_static3, zx_virt3, zx_static4, zx_virt4, zx_static5, zx_virt5, zx_static6, zx_virt6, zx_static7, zx_virt7, zx_cpI, zx_cpL, ↓cpI, ↓cpL, zx_slen, zx_schr, zx_tsw, zx_spec3, new_X, zx_new1, zrun_nil, zrun_cons, ↓zgi_h, ↓zgi_n, ↓zgl_h, ↓zgl_n, ↓zgr_h, ↓zgr_n, zset1, zset2, zins_nil, zins_c, f3, cat_i, cat_l, cat_r, List.filter_cons, List.filter_nil, Bool.false_eq_true, l_of0, lv_args, Nat.reduceBEq, Nat.reduceAdd, Nat.reduceLeDiff, Nat.reduceLT, Bool.not_true, Bool.not_false, Bool.and_true, Bool.true_and, Bool.and_false, Bool.false_and, Nat.reduceEqDiff, reduceIte, List.contains_cons, List.contains_nil, Bool.or_false, Bool.or_true, Bool.false_or, Bool.true_or, Fin.isValue, Fin.val_zero, Fin.val_one, Fin.val_two, Fin.reduceFinMk, Option.toList_some, Option.toList_none, List.nil_append, List.cons_append, zwt_nil, zwt_i, zwt_l, zwt_r, zthr_nil, List.isEmpty_nil, zcE, ↓ar_k, lgc0, true_and, and_true, true_implies, implies_true, false_implies, forall_const, i_len, ob_0, ob_1, ↓bI_01, bI_0, not_true_eq_false, not_false_eq_true, Bool.not_eq_false, Bool.not_eq_true, ia_add, ia_sub, ia_mul, ia_neg, ↓ldI, ↓ldL, zaI_c, zaL_c, ↓zlen_I, ↓zlen_L, ↓stI, ↓stL, gD_sI, gN_sI, gI_sI, gJ_sI, gR_sI, gA_sI, gB_sI, gT_sI, gD_sJ, gN_sJ, gI_sJ, gJ_sJ, gR_sJ, gA_sJ, gB_sJ, gT_sJ, gD_sR, gN_sR, gI_sR, gJ_sR, gR_sR, gA_sR, gB_sR, gT_sR, gD_sA, gN_sA, gI_sA, gJ_sA, gR_sA, gA_sA, gB_sA, gT_sA, gD_sB, gN_sB, gI_sB, gJ_sB, gR_sB, gA_sB, gB_sB, gT_sB, zx_il0, zx_il1, zx_il2, zx_il3, zx_ll0, zx_ll1, zx_ll2, zx_ll3, zx_al0, zx_al1, zx_al2, zx_al3, e_has, e_bA, e_mn, e_mx, e_pcI, e_pcL, e_low, zml_17, zg17_0, zb17_0, zmc_16, zms_16, zow_16, zhd_16, zmc_17, zms_17, zow_17, zhd_17, ↓gf_10_12, ↓gf_10_13, ↓gf_10_6, ↓gv_2]
  exact hQ τ f hC
theorem u_rest {σ : zS} {t : Nat} {s : Ab} {Q : zQ} (h : CI σ t s) (hQ : ∀ τ, fw 16 88 σ τ → CI τ t (s_rest s) → Q (.inl (some (.int (Int32.ofInt (a_rest s))))) (hOf τ)) : zW zP 19 [.ref 84, .ref 48, .ref 79] (hOf σ) Q := by
  have ht := CI_t h
  have hv := Wv_rest (CI_v h)
  have hK := (CI_v h).2.2.2.2.2.2.2.1
  have lI := LA_Images (CI_A h)
  have lS := LA_Story (CI_A h)
  have lC := LA_Changes (CI_A h)
  rw [zWE]
  simp -implicitDefEqProofs only [zx_iconst, zx_bipush, zx_sipush, zx_lconst, zx_ldc, zx_ldcS, zx_ldc_w, zx_ldc2_w, zx_iload, zx_lload, zx_aload, zx_istore_n, zx_istore, zx_lstore_n, zx_lstore, zx_astore_n, zx_astore, zx_iinc, zx_iadd, zx_isub, zx_imul, zx_iand, zx_ior, zx_ixor, zx_ishl, zx_ishr, zx_iushr, zx_idiv, zx_irem, zx_ineg, zx_ladd, zx_lsub, zx_land, zx_lor, zx_lxor, zx_lneg, zx_lshl, zx_lushr, zx_i2l, zx_l2i, zx_lcmp, zx_dup, zx_dup2, zx_pop, zx_goto, zx_if_eq, zx_if_ne, zx_if_lt, zx_if_ge, zx_if_gt, zx_if_le, zx_icmp_eq, zx_icmp_ne, zx_icmp_lt, zx_icmp_ge, zx_icmp_gt, zx_icmp_le, zx_getfield, zx_putfield, zx_iaload, zx_laload, zx_aaload, zx_iastore, zx_lastore, zx_arraylength, zx_ireturn, zx_lreturn, zx_areturn, zx_return, zx_athrow, zx_static0, zx_static1, zx_virt1, zx_static2, zx_virt2, zx_static3, zx_virt3, zx_static4, zx_virt4, zx_static5, zx_virt5, zx_static6, zx_virt6, zx_static7, zx_virt7, zx_cpI, zx_cpL, ↓cpI, ↓cpL, zx_slen, zx_schr, zx_tsw, zx_spec3, new_X, zx_new1, zrun_nil, zrun_cons, ↓zgi_h, ↓zgi_n, ↓zgl_h, ↓zgl_n, ↓zgr_h, ↓zgr_n, zset1, zset2, zins_nil, zins_c, f3, cat_i, cat_l, cat_r, List.filter_cons, List.filter_nil, Bool.false_eq_true, l_of0, lv_args, Nat.reduceBEq, Nat.reduceAdd, Nat.reduceLeDiff, Nat.reduceLT, Bool.not_true, Bool.not_false, Bool.and_true, Bool.true_and, Bool.and_false, Bool.false_and, Nat.reduceEqDiff, reduceIte, List.contains_cons, List.contains_nil, Bool.or_false, Bool.or_true, Bool.false_or, Bool.true_or, Fin.isValue, Fin.val_zero, Fin.val_one, Fin.val_two, Fin.reduceFinMk, Option.toList_some, Option.toList_none, List.nil_append, List.cons_append, zwt_nil, zwt_i, zwt_l, zwt_r, zthr_nil, List.isEmpty_nil, zcE, ↓ar_k, lgc0, true_and, and_true, true_implies, implies_true, false_implies, forall_const, i_len, ob_0, ob_1, ↓bI_01, bI_0, not_true_eq_false, not_false_eq_true, Bool.not_eq_false, Bool.not_eq_true, ia_add, ia_sub, ia_mul, ia_neg, ↓ldI, ↓ldL, zaI_c, zaL_c, ↓zlen_I, ↓zlen_L, ↓stI, ↓stL, gD_sI, gN_sI, gI_sI, gJ_sI, gR_sI, gA_sI, gB_sI, gT_sI, gD_sJ, gN_sJ, gI_sJ, gJ_sJ, gR_sJ, gA_sJ, gB_sJ, gT_sJ, gD_sR, gN_sR, gI_sR, gJ_sR, gR_sR, gA_sR, gB_sR, gT_sR, gD_sA, gN_sA, gI_sA, gJ_sA, gR_sA, gA_sA, gB_sA, gT_sA, gD_sB, gN_sB, gI_sB, gJ_sB, gR_sB, gA_sB, gB_sB, gT_sB, zx_il0, zx_il1, zx_il2, zx_il3, zx_ll0, zx_ll1, zx_ll2, zx_ll3, zx_al0, zx_al1, zx_al2, zx_al3, e_has, e_bA, e_mn, e_mx, e_pcI, e_pcL, e_low, zml_19, zg19_0, zb19_0, zg19_9, zb19_9, zmc_19, zms_19, zow_19, zhd_19, ↓gf_2_0, ↓gf_2_1, ↓gf_2_2, ↓gf_2_3, ↓gf_7_1, ↓pp_0_0, ↓pp_2_0, ↓pp_7_0, ↓pq_0_0, ↓pq_2_0, ↓pq_7_0, ↓pw_0_0, ↓pw_2_0, ↓pw_7_0, show (Int8.ofInt 12).toInt32 = Int32.ofInt 12 from rfl, show ztg 4 5 = 9 from rfl, LImages_d lI, LImages_r1 lI, LImages_k1 lI, LImages_n1 lI, LImages_r2 lI, LImages_k2 lI, LImages_n2 lI, LImages_r3 lI, LImages_k3 lI, LImages_n3 lI, LStory_d lS, LStory_r1 lS, LStory_k1 lS, LStory_n1 lS, LStory_r2 lS, LStory_k2 lS, LStory_n2 lS, LStory_r3 lS, LStory_k3 lS, LStory_n3 lS, LStory_r4 lS, LStory_k4 lS, LStory_n4 lS, LChanges_d lC, LChanges_r1 lC, LChanges_k1 lC, LChanges_n1 lC, LChanges_r2 lC, LChanges_k2 lC, LChanges_n2 lC, LChanges_r3 lC, LChanges_k3 lC, LChanges_n3 lC, CI_n h, (CI_U h).1, (CI_M h).1]
  try simp (disch := omega) only [ii_lt, ii_le, ii_eq, ii_eq0, ii_lt0, ii_0lt, ii_le0, ii_0le, i_inT, i_natN, i_nat, ia_div, ia_rem, hs_ofI, i_1shl, i_or, i_bit, true_and, and_true, not_true_eq_false, not_false_eq_true, true_implies, false_implies, implies_true, Int.reduceLT, Int.reduceLE, Int.reduceEq, Int.reduceNeg, Int.toNat_natCast, Int.reduceToNat, Nat.reduceLeDiff, Nat.reduceAdd, tn_2, tn_2p, tn_48, tn_48r, tn_3, tn_3p, tn_3q, tn_p1, tn_d2, tn_12, ia_add, ia_sub, ia_mul]
  unfold s_rest a_rest at *
  by_cases c : 0 < xK s
  rotate_left 1
  · rw [if_neg c, if_neg c] at hQ
    refine ⟨fun z => by omega, fun _ => ?_⟩
    exact hQ σ fw_refl h
  rw [if_pos c, if_pos c] at hQ
  rw [if_pos c] at hv
  have e1 : (xK s : Int) - 1 = ((xK s - 1 : Nat) : Int) := by omega
  refine ⟨fun _ => ?_, fun z => by omega⟩
  rw [e1]
  generalize hk : xK s - 1 = k at *
  obtain ⟨m1, m2, m3⟩ := (CI_M h).2 k (by omega)
  obtain ⟨y1, y2, y3⟩ := (CI_v h).2.2.2.2.2.2.2.2.1 k (by omega)
  rw [show ((k : Nat) : Int).toNat = k from by omega, show (((k : Nat) : Int) * 12).toNat = k * 12 from by omega, m1, m2]
  refine ⟨?_, ?_, by omega, by omega, ?_⟩
  · try simp (disch := omega) only [ii_lt, ii_le, ii_eq, ii_eq0, ii_lt0, ii_0lt, ii_le0, ii_0le, i_inT, i_natN, i_nat, ia_div, ia_rem, hs_ofI, i_1shl, i_or, i_bit, true_and, and_true, not_true_eq_false, not_false_eq_true, true_implies, false_implies, implies_true, Int.reduceLT, Int.reduceLE, Int.reduceEq, Int.reduceNeg, Int.toNat_natCast, Int.reduceToNat, Nat.reduceLeDiff, Nat.reduceAdd, tn_2, tn_2p, tn_48, tn_48r, tn_3, tn_3p, tn_3q, tn_p1, tn_d2, tn_12, ia_add, ia_sub, ia_mul]
    try omega
  · try simp (disch := omega) only [ii_lt, ii_le, ii_eq, ii_eq0, ii_lt0, ii_0lt, ii_le0, ii_0le, i_inT, i_natN, i_nat, ia_div, ia_rem, hs_ofI, i_1shl, i_or, i_bit, true_and, and_true, not_true_eq_false, not_false_eq_true, true_implies, false_implies, implies_true, Int.reduceLT, Int.reduceLE, Int.reduceEq, Int.reduceNeg, Int.toNat_natCast, Int.reduceToNat, Nat.reduceLeDiff, Nat.reduceAdd, tn_2, tn_2p, tn_48, tn_48r, tn_3, tn_3p, tn_3q, tn_p1, tn_d2, tn_12, ia_add, ia_sub, ia_mul]
    try omega
  · have g : fz 48 85 σ (sA (sI (sI (sI σ 84 0 (Int32.ofInt ((k : Nat) : Int))) 48 0 (Int32.ofInt ((xi0 s k : Nat) : Int))) 79 0 (Int32.ofInt ((xi1 s k : Nat) : Int))) 80 (va_cpy (gA σ 87) (gA σ 80) (k * 12) 0 12)) := fz_trans (fz_trans (fz_trans (fz_sI (by omega)) (fz_sI (by omega))) (fz_sI (by omega))) (fz_sA (by omega))
    have := hQ _ (fw_z g (by omega)) (CI_up g (by omega) hv h rfl rfl ?_ ?_ ?_ ⟨?_, y2, fun j hj => ⟨?_, y3 j hj⟩⟩ ⟨?_, fun j hj => ?_⟩ rfl)
    · first | exact this | exact zjf rfl (this)
    · have := CI_H h
      show CH _ t (xH s)
      unfold CH at this ⊢
      rw [fz_B g (by omega), fz_B g (by omega)]
      exact this
    · rw [gI_sA, gI_sI, if_neg (by omega), gI_sI, if_pos ⟨rfl, rfl⟩]
      rfl
    · have := CI_L h
      show CL _ (xH s) (xi0 s k)
      intro u hu
      exact this u (by omega)
    · rw [gI_sA, gI_sI, if_pos ⟨rfl, rfl⟩]
      rfl
    · have hj : j < xi1 s k := hj
      rw [gA_self]
      unfold va_cpy
      rw [if_pos (by omega), show k * 12 + (j - 0) = k * 12 + j from by omega]
      exact m3 j hj
    · rw [gI_sA, gI_sI, if_neg (by omega), gI_sI, if_neg (by omega), gI_sI, if_pos ⟨rfl, rfl⟩]
      rfl
    · have hj : j < k := hj
      exact (CI_M h).2 j (by omega)
theorem k_rest {σ : zS} {t : Nat} {s : Ab} {Q : zQ} (h : CI σ t s) (hQ : ∀ τ, fw 16 88 σ τ → CI τ t (s_rest s) → Q (.inl (some (.int (Int32.ofInt (a_rest s))))) (hOf τ)) : zW zP 20 [.ref 16] (hOf σ) Q := by
  have lM := LA_Main (CI_A h)
  rw [zWE]
  simp -implicitDefEqProofs only [zx_iconst, zx_bipush, zx_sipush, zx_lconst, zx_ldc, zx_ldcS, zx_ldc_w, zx_ldc2_w, zx_iload, zx_lload, zx_aload, zx_istore_n, zx_istore, zx_lstore_n, zx_lstore, zx_astore_n, zx_astore, zx_iinc, zx_iadd, zx_isub, zx_imul, zx_iand, zx_ior, zx_ixor, zx_ishl, zx_ishr, zx_iushr, zx_idiv, zx_irem, zx_ineg, zx_ladd, zx_lsub, zx_land, zx_lor, zx_lxor, zx_lneg, zx_lshl, zx_lushr, zx_i2l, zx_l2i, zx_lcmp, zx_dup, zx_dup2, zx_pop, zx_goto, zx_if_eq, zx_if_ne, zx_if_lt, zx_if_ge, zx_if_gt, zx_if_le, zx_icmp_eq, zx_icmp_ne, zx_icmp_lt, zx_icmp_ge, zx_icmp_gt, zx_icmp_le, zx_getfield, zx_putfield, zx_iaload, zx_laload, zx_aaload, zx_iastore, zx_lastore, zx_arraylength, zx_ireturn, zx_lreturn, zx_areturn, zx_return, zx_athrow, zx_static0, zx_static1, zx_virt1, zx_static2, zx_virt2, zx_static3, zx_virt3, zx_static4, zx_virt4, zx_static5, zx_virt5, zx_static6, zx_virt6, zx_static7, zx_virt7, zx_cpI, zx_cpL, ↓cpI, ↓cpL, zx_slen, zx_schr, zx_tsw, zx_spec3, new_X, zx_new1, zrun_nil, zrun_cons, ↓zgi_h, ↓zgi_n, ↓zgl_h, ↓zgl_n, ↓zgr_h, ↓zgr_n, zset1, zset2, zins_nil, zins_c, f3, cat_i, cat_l, cat_r, List.filter_cons, List.filter_nil, Bool.false_eq_true, l_of0, lv_args, Nat.reduceBEq, Nat.reduceAdd, Nat.reduceLeDiff, Nat.reduceLT, Bool.not_true, Bool.not_false, Bool.and_true, Bool.true_and, Bool.and_false, Bool.false_and, Nat.reduceEqDiff, reduceIte, List.contains_cons, List.contains_nil, Bool.or_false, Bool.or_true, Bool.false_or, Bool.true_or, Fin.isValue, Fin.val_zero, Fin.val_one, Fin.val_two, Fin.reduceFinMk, Option.toList_some, Option.toList_none, List.nil_append, List.cons_append, zwt_nil, zwt_i, zwt_l, zwt_r, zthr_nil, List.isEmpty_nil, zcE, ↓ar_k, lgc0, true_and, and_true, true_implies, implies_true, false_implies, forall_const, i_len, ob_0, ob_1, ↓bI_01, bI_0, not_true_eq_false, not_false_eq_true, Bool.not_eq_false, Bool.not_eq_true, ia_add, ia_sub, ia_mul, ia_neg, ↓ldI, ↓ldL, zaI_c, zaL_c, ↓zlen_I, ↓zlen_L, ↓stI, ↓stL, gD_sI, gN_sI, gI_sI, gJ_sI, gR_sI, gA_sI, gB_sI, gT_sI, gD_sJ, gN_sJ, gI_sJ, gJ_sJ, gR_sJ, gA_sJ, gB_sJ, gT_sJ, gD_sR, gN_sR, gI_sR, gJ_sR, gR_sR, gA_sR, gB_sR, gT_sR, gD_sA, gN_sA, gI_sA, gJ_sA, gR_sA, gA_sA, gB_sA, gT_sA, gD_sB, gN_sB, gI_sB, gJ_sB, gR_sB, gA_sB, gB_sB, gT_sB, zx_il0, zx_il1, zx_il2, zx_il3, zx_ll0, zx_ll1, zx_ll2, zx_ll3, zx_al0, zx_al1, zx_al2, zx_al3, e_has, e_bA, e_mn, e_mx, e_pcI, e_pcL, e_low, zml_20, zg20_0, zb20_0, zmc_19, zms_19, zow_19, zhd_19, zmc_20, zms_20, zow_20, zhd_20, ↓gf_10_12, ↓gf_10_13, ↓gf_10_6, ↓gv_2, LMain_d lM, LMain_d17 lM, LMain_n17 lM, LMain_d46 lM, LMain_r0 lM, LMain_r5 lM, LMain_r6 lM, LMain_r7 lM, LMain_r8 lM, LMain_r9 lM, LMain_r10 lM, LMain_r11 lM, LMain_r12 lM, LMain_r13 lM, LImages_d (LA_Images (CI_A h)), LImages_r1 (LA_Images (CI_A h)), LImages_k1 (LA_Images (CI_A h)), LImages_n1 (LA_Images (CI_A h)), LImages_r2 (LA_Images (CI_A h)), LImages_k2 (LA_Images (CI_A h)), LImages_n2 (LA_Images (CI_A h)), LImages_r3 (LA_Images (CI_A h)), LImages_k3 (LA_Images (CI_A h)), LImages_n3 (LA_Images (CI_A h))]
  refine u_rest h (fun τ f hC => ?_)
  simp -implicitDefEqProofs only [zx_iconst, zx_bipush, zx_sipush, zx_lconst, zx_ldc, zx_ldcS, zx_ldc_w, zx_ldc2_w, zx_iload, zx_lload, zx_aload, zx_istore_n, zx_istore, zx_lstore_n, zx_lstore, zx_astore_n, zx_astore, zx_iinc, zx_iadd, zx_isub, zx_imul, zx_iand, zx_ior, zx_ixor, zx_ishl, zx_ishr, zx_iushr, zx_idiv, zx_irem, zx_ineg, zx_ladd, zx_lsub, zx_land, zx_lor, zx_lxor, zx_lneg, zx_lshl, zx_lushr, zx_i2l, zx_l2i, zx_lcmp, zx_dup, zx_dup2, zx_pop, zx_goto, zx_if_eq, zx_if_ne, zx_if_lt, zx_if_ge, zx_if_gt, zx_if_le, zx_icmp_eq, zx_icmp_ne, zx_icmp_lt, zx_icmp_ge, zx_icmp_gt, zx_icmp_le, zx_getfield, zx_putfield, zx_iaload, zx_laload, zx_aaload, zx_iastore, zx_lastore, zx_arraylength, zx_ireturn, zx_lreturn, zx_areturn, zx_return, zx_athrow, zx_static0, zx_static1, zx_virt1, zx_static2, zx_virt2, zx_static3, zx_virt3, zx_static4, zx_virt4, zx_static5, zx_virt5, zx_static6, zx_virt6, zx_static7, zx_virt7, zx_cpI, zx_cpL, ↓cpI, ↓cpL, zx_slen, zx_schr, zx_tsw, zx_spec3, new_X, zx_new1, zrun_nil, zrun_cons, ↓zgi_h, ↓zgi_n, ↓zgl_h, ↓zgl_n, ↓zgr_h, ↓zgr_n, zset1, zset2, zins_nil, zins_c, f3, cat_i, cat_l, cat_r, List.filter_cons, List.filter_nil, Bool.false_eq_true, l_of0, lv_args, Nat.reduceBEq, Nat.reduceAdd, Nat.reduceLeDiff, Nat.reduceLT, Bool.not_true, Bool.not_false, Bool.and_true, Bool.true_and, Bool.and_false, Bool.false_and, Nat.reduceEqDiff, reduceIte, List.contains_cons, List.contains_nil, Bool.or_false, Bool.or_true, Bool.false_or, Bool.true_or, Fin.isValue, Fin.val_zero, Fin.val_one, Fin.val_two, Fin.reduceFinMk, Option.toList_some, Option.toList_none, List.nil_append, List.cons_append, zwt_nil, zwt_i, zwt_l, zwt_r, zthr_nil, List.isEmpty_nil, zcE, ↓ar_k, lgc0, true_and, and_true, true_implies, implies_true, false_implies, forall_const, i_len, ob_0, ob_1, ↓bI_01, bI_0, not_true_eq_false, not_false_eq_true, Bool.not_eq_false, Bool.not_eq_true, ia_add, ia_sub, ia_mul, ia_neg, ↓ldI, ↓ldL, zaI_c, zaL_c, ↓zlen_I, ↓zlen_L, ↓stI, ↓stL, gD_sI, gN_sI, gI_sI, gJ_sI, gR_sI, gA_sI, gB_sI, gT_sI, gD_sJ, gN_sJ, gI_sJ, gJ_sJ, gR_sJ, gA_sJ, gB_sJ, gT_sJ, gD_sR, gN_sR, gI_sR, gJ_sR, gR_sR, gA_sR, gB_sR, gT_sR, gD_sA, gN_sA, gI_sA, gJ_sA, gR_sA, gA_sA, gB_sA, gT_sA, gD_sB, gN_sB, gI_sB, gJ_sB, gR_sB, gA_sB, gB_sB, gT_sB, zx_il0, zx_il1, zx_il2, zx_il3, zx_ll0, zx_ll1, zx_ll2, zx_ll3, zx_al0, zx_al1, zx_al2, zx_al3, e_has, e_bA, e_mn, e_mx, e_pcI, e_pcL, e_low, zml_20, zg20_0, zb20_0, zmc_19, zms_19, zow_19, zhd_19, zmc_20, zms_20, zow_20, zhd_20, ↓gf_10_12, ↓gf_10_13, ↓gf_10_6, ↓gv_2]
  exact hQ τ f hC
