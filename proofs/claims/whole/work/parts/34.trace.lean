/-! THE FIRST OF THE SHORTEST RIDES -/
theorem lw_least {p : Nat → Prop} : ∀ n, p n → ∃ n, p n ∧ ∀ m, m < n → ¬ p m := by
  intro n
  induction n using Nat.strongRecOn with
  | ind n ih =>
    intro hn
    by_cases h : ∃ m, m < n ∧ p m
    · obtain ⟨m, h1, h2⟩ := h
      exact ih m h1 h2
    · exact ⟨n, hn, fun m hm hp => h ⟨m, hm, hp⟩⟩
/-- the least number that -/
noncomputable def lw (p : Nat → Prop) : Option Nat := @dite _ (∃ n, p n ∧ ∀ m, m < n → ¬ p m) (Classical.propDecidable _) (fun h => some (Classical.choose h)) (fun _ => none)
theorem lw_some {p : Nat → Prop} {n : Nat} : lw p = some n ↔ p n ∧ ∀ m, m < n → ¬ p m := by
  unfold lw
  by_cases h : ∃ n, p n ∧ ∀ m, m < n → ¬ p m
  · rw [dif_pos h]
    have hc := Classical.choose_spec h
    constructor
    · intro e
      cases e
      exact hc
    · intro e
      congr 1
      apply Classical.byContradiction
      intro hne
      rcases Nat.lt_or_gt_of_ne hne with h1 | h1
      · exact e.2 _ h1 hc.1
      · exact hc.2 _ h1 e.1
  · rw [dif_neg h]
    constructor
    · intro e
      cases e
    · intro e
      exact absurd ⟨n, e⟩ h
theorem lw_none {p : Nat → Prop} : lw p = none ↔ ∀ n, ¬ p n := by
  constructor
  · intro h n hn
    obtain ⟨m, hm⟩ := lw_least n hn
    rw [lw_some.2 hm] at h
    cases h
  · intro h
    cases e : lw p with
    | none => rfl
    | some n => exact absurd (lw_some.1 e).1 (h n)
theorem lw_congr {p q : Nat → Prop} (h : ∀ n, p n ↔ q n) : lw p = lw q := by
  have : p = q := funext (fun n => propext (h n))
  rw [this]
def oI (o : Option Nat) : Int := match o with
  | some d => d
  | none => -1
theorem oI_none : oI none = -1 := rfl
theorem oI_some {a : Nat} : oI (some a) = (a : Int) := rfl
theorem u_least {σ : zS} {m : Int64} {v : Nat → Nat} {Q : zQ} (hr : LRoutes σ) (hv : ∀ a, a < 48 → gA σ 58 a = Int32.ofInt (v a) ∧ v a ≤ 268435456) (hQ : ∀ x : Nat, x ≤ 268435456 → (∀ a, a < 48 → bt m a = true → x ≤ v a) → (x = 268435456 ∨ ∃ a, a < 48 ∧ bt m a = true ∧ v a = x) → Q (.inl (some (.int (Int32.ofInt x)))) (hOf σ)) : zW zP 46 [.ref 56, .long m] (hOf σ) Q := by
  rw [zWE]
  simp only [zx_iconst, zx_bipush, zx_sipush, zx_lconst, zx_ldc, zx_ldcS, zx_ldc_w, zx_ldc2_w, zx_iload, zx_lload, zx_aload, zx_istore_n, zx_istore, zx_lstore_n, zx_lstore, zx_astore_n, zx_astore, zx_iinc, zx_iadd, zx_isub, zx_imul, zx_iand, zx_ior, zx_ixor, zx_ishl, zx_ishr, zx_iushr, zx_idiv, zx_irem, zx_ineg, zx_ladd, zx_lsub, zx_land, zx_lor, zx_lxor, zx_lneg, zx_lshl, zx_lushr, zx_i2l, zx_l2i, zx_lcmp, zx_dup, zx_dup2, zx_pop, zx_goto, zx_if_eq, zx_if_ne, zx_if_lt, zx_if_ge, zx_if_gt, zx_if_le, zx_icmp_eq, zx_icmp_ne, zx_icmp_lt, zx_icmp_ge, zx_icmp_gt, zx_icmp_le, zx_getfield, zx_putfield, zx_iaload, zx_laload, zx_aaload, zx_iastore, zx_lastore, zx_arraylength, zx_ireturn, zx_lreturn, zx_areturn, zx_return, zx_athrow, zx_static0, zx_static1, zx_virt1, zx_static2, zx_virt2, zx_static3, zx_virt3, zx_static4, zx_virt4, zx_static5, zx_virt5, zx_static6, zx_virt6, zx_static7, zx_virt7, zx_cpI, zx_cpL, ↓cpI, ↓cpL, zx_slen, zx_schr, zx_tsw, zx_spec3, new_X, zx_new1, zrun_nil, zrun_cons, ↓zgi_h, ↓zgi_n, ↓zgl_h, ↓zgl_n, ↓zgr_h, ↓zgr_n, zset1, zset2, zins_nil, zins_c, f3, cat_i, cat_l, cat_r, List.filter_cons, List.filter_nil, Bool.false_eq_true, l_of0, lv_args, Nat.reduceBEq, Nat.reduceAdd, Nat.reduceLeDiff, Nat.reduceLT, Bool.not_true, Bool.not_false, Bool.and_true, Bool.true_and, Bool.and_false, Bool.false_and, Nat.reduceEqDiff, reduceIte, List.contains_cons, List.contains_nil, Bool.or_false, Bool.or_true, Bool.false_or, Bool.true_or, Fin.isValue, Fin.val_zero, Fin.val_one, Fin.val_two, Fin.reduceFinMk, Option.toList_some, Option.toList_none, List.nil_append, List.cons_append, zwt_nil, zwt_i, zwt_l, zwt_r, zthr_nil, List.isEmpty_nil, zcE, ↓ar_k, lgc0, true_and, and_true, true_implies, implies_true, false_implies, forall_const, i_len, ob_0, ob_1, ↓bI_01, bI_0, not_true_eq_false, not_false_eq_true, Bool.not_eq_false, Bool.not_eq_true, ia_add, ia_sub, ia_mul, ia_neg, ↓ldI, ↓ldL, zaI_c, zaL_c, ↓zlen_I, ↓zlen_L, ↓stI, ↓stL, gD_sI, gN_sI, gI_sI, gJ_sI, gR_sI, gA_sI, gB_sI, gT_sI, gD_sJ, gN_sJ, gI_sJ, gJ_sJ, gR_sJ, gA_sJ, gB_sJ, gT_sJ, gD_sR, gN_sR, gI_sR, gJ_sR, gR_sR, gA_sR, gB_sR, gT_sR, gD_sA, gN_sA, gI_sA, gJ_sA, gR_sA, gA_sA, gB_sA, gT_sA, gD_sB, gN_sB, gI_sB, gJ_sB, gR_sB, gA_sB, gB_sB, gT_sB, zx_il0, zx_il1, zx_il2, zx_il3, zx_ll0, zx_ll1, zx_ll2, zx_ll3, zx_al0, zx_al1, zx_al2, zx_al3, e_has, e_bA, e_mn, e_mx, e_pcI, e_pcL, e_low, zml_46, zg46_0, zb46_0, zb46_6, zg46_34, zb46_34, zg46_40, zb46_40, zmc_26, zms_26, zow_26, zhd_26, zmc_46, zms_46, zow_46, zhd_46, zmc_31, zms_31, zow_31, zhd_31, ↓gf_5_1, show (Int8.ofInt 48).toInt32 = Int32.ofInt 48 from rfl, show ztg 10 30 = 40 from rfl, show ztg 19 15 = 34 from rfl, show ztg 37 (-31) = 6 from rfl, LRoutes_d hr, LRoutes_r0 hr, LRoutes_k0 hr, LRoutes_n0 hr, LRoutes_r1 hr, LRoutes_k1 hr, LRoutes_n1 hr]
  have key : ∀ i : Nat, i ≤ 48 → ∀ x : Nat, x ≤ 268435456 → (∀ a, a < i → bt m a = true → x ≤ v a) → (x = 268435456 ∨ ∃ a, a < i ∧ bt m a = true ∧ v a = x) → zfp zP (zcall zP 46) 46 Q 6 [(0, .ref 56), (1, .long m), (3, .int (Int32.ofInt x)), (4, .int (Int32.ofInt i))] [] (hOf σ) 0 0 := by
    refine bk _ ?_
    intro i hi ih x h1 h2 h3
    rw [zg46_6]
    simp only [zx_iconst, zx_bipush, zx_sipush, zx_lconst, zx_ldc, zx_ldcS, zx_ldc_w, zx_ldc2_w, zx_iload, zx_lload, zx_aload, zx_istore_n, zx_istore, zx_lstore_n, zx_lstore, zx_astore_n, zx_astore, zx_iinc, zx_iadd, zx_isub, zx_imul, zx_iand, zx_ior, zx_ixor, zx_ishl, zx_ishr, zx_iushr, zx_idiv, zx_irem, zx_ineg, zx_ladd, zx_lsub, zx_land, zx_lor, zx_lxor, zx_lneg, zx_lshl, zx_lushr, zx_i2l, zx_l2i, zx_lcmp, zx_dup, zx_dup2, zx_pop, zx_goto, zx_if_eq, zx_if_ne, zx_if_lt, zx_if_ge, zx_if_gt, zx_if_le, zx_icmp_eq, zx_icmp_ne, zx_icmp_lt, zx_icmp_ge, zx_icmp_gt, zx_icmp_le, zx_getfield, zx_putfield, zx_iaload, zx_laload, zx_aaload, zx_iastore, zx_lastore, zx_arraylength, zx_ireturn, zx_lreturn, zx_areturn, zx_return, zx_athrow, zx_static0, zx_static1, zx_virt1, zx_static2, zx_virt2, zx_static3, zx_virt3, zx_static4, zx_virt4, zx_static5, zx_virt5, zx_static6, zx_virt6, zx_static7, zx_virt7, zx_cpI, zx_cpL, ↓cpI, ↓cpL, zx_slen, zx_schr, zx_tsw, zx_spec3, new_X, zx_new1, zrun_nil, zrun_cons, ↓zgi_h, ↓zgi_n, ↓zgl_h, ↓zgl_n, ↓zgr_h, ↓zgr_n, zset1, zset2, zins_nil, zins_c, f3, cat_i, cat_l, cat_r, List.filter_cons, List.filter_nil, Bool.false_eq_true, l_of0, lv_args, Nat.reduceBEq, Nat.reduceAdd, Nat.reduceLeDiff, Nat.reduceLT, Bool.not_true, Bool.not_false, Bool.and_true, Bool.true_and, Bool.and_false, Bool.false_and, Nat.reduceEqDiff, reduceIte, List.contains_cons, List.contains_nil, Bool.or_false, Bool.or_true, Bool.false_or, Bool.true_or, Fin.isValue, Fin.val_zero, Fin.val_one, Fin.val_two, Fin.reduceFinMk, Option.toList_some, Option.toList_none, List.nil_append, List.cons_append, zwt_nil, zwt_i, zwt_l, zwt_r, zthr_nil, List.isEmpty_nil, zcE, ↓ar_k, lgc0, true_and, and_true, true_implies, implies_true, false_implies, forall_const, i_len, ob_0, ob_1, ↓bI_01, bI_0, not_true_eq_false, not_false_eq_true, Bool.not_eq_false, Bool.not_eq_true, ia_add, ia_sub, ia_mul, ia_neg, ↓ldI, ↓ldL, zaI_c, zaL_c, ↓zlen_I, ↓zlen_L, ↓stI, ↓stL, gD_sI, gN_sI, gI_sI, gJ_sI, gR_sI, gA_sI, gB_sI, gT_sI, gD_sJ, gN_sJ, gI_sJ, gJ_sJ, gR_sJ, gA_sJ, gB_sJ, gT_sJ, gD_sR, gN_sR, gI_sR, gJ_sR, gR_sR, gA_sR, gB_sR, gT_sR, gD_sA, gN_sA, gI_sA, gJ_sA, gR_sA, gA_sA, gB_sA, gT_sA, gD_sB, gN_sB, gI_sB, gJ_sB, gR_sB, gA_sB, gB_sB, gT_sB, zx_il0, zx_il1, zx_il2, zx_il3, zx_ll0, zx_ll1, zx_ll2, zx_ll3, zx_al0, zx_al1, zx_al2, zx_al3, e_has, e_bA, e_mn, e_mx, e_pcI, e_pcL, e_low, zml_46, zg46_0, zb46_0, zb46_6, zg46_34, zb46_34, zg46_40, zb46_40, zmc_26, zms_26, zow_26, zhd_26, zmc_46, zms_46, zow_46, zhd_46, zmc_31, zms_31, zow_31, zhd_31, ↓gf_5_1, show (Int8.ofInt 48).toInt32 = Int32.ofInt 48 from rfl, show ztg 10 30 = 40 from rfl, show ztg 19 15 = 34 from rfl, show ztg 37 (-31) = 6 from rfl, LRoutes_d hr, LRoutes_r0 hr, LRoutes_k0 hr, LRoutes_n0 hr, LRoutes_r1 hr, LRoutes_k1 hr, LRoutes_n1 hr]
    try simp (disch := omega) only [ii_lt, ii_le, ii_eq, ii_eq0, ii_lt0, ii_0lt, ii_le0, ii_0le, i_inT, i_natN, i_nat, ia_div, ia_rem, hs_ofI, i_1shl, i_or, i_bit, true_and, and_true, not_true_eq_false, not_false_eq_true, true_implies, false_implies, implies_true, Int.reduceLT, Int.reduceLE, Int.reduceEq, Int.reduceNeg, Int.toNat_natCast, Int.reduceToNat, Nat.reduceLeDiff, Nat.reduceAdd, tn_2, tn_2p, tn_48, tn_48r, tn_3, tn_3p, tn_3q, tn_p1, tn_d2, tn_12]
    refine ⟨fun c => ?_, fun c => ⟨fun c2 => ?_, fun c2 => ?_⟩⟩
    · have hi48 : i = 48 := by omega
      subst hi48
      exact hQ x h1 h2 h3
    · refine ih (by omega) x h1 (fun a ha hb => ?_) ?_
      · by_cases e : a = i
        · rw [e, c2] at hb
          cases hb
        · exact h2 a (by omega) hb
      · rcases h3 with h3 | ⟨a, h4, h5⟩
        · exact .inl h3
        · exact .inr ⟨a, by omega, h5⟩
    · have hvi := hv i (by omega)
      have hv2 := hvi.2
      simp only [hvi.1]
      try simp (disch := omega) only [ii_lt, ii_le, ii_eq, ii_eq0, ii_lt0, ii_0lt, ii_le0, ii_0le, i_inT, i_natN, i_nat, ia_div, ia_rem, hs_ofI, i_1shl, i_or, i_bit, true_and, and_true, not_true_eq_false, not_false_eq_true, true_implies, false_implies, implies_true, Int.reduceLT, Int.reduceLE, Int.reduceEq, Int.reduceNeg, Int.toNat_natCast, Int.reduceToNat, Nat.reduceLeDiff, Nat.reduceAdd, tn_2, tn_2p, tn_48, tn_48r, tn_3, tn_3p, tn_3q, tn_p1, tn_d2, tn_12, mn_of]
      rw [show min (x : Int) (v i : Int) = ((min x (v i) : Nat) : Int) from by omega]
      refine ih (by omega) (min x (v i)) (by omega) (fun a ha hb => ?_) ?_
      · by_cases e : a = i
        · rw [e]
          exact Nat.min_le_right _ _
        · have := h2 a (by omega) hb
          omega
      · by_cases e : v i ≤ x
        · exact .inr ⟨i, by omega, c2, by omega⟩
        · rw [Nat.min_eq_left (by omega)]
          rcases h3 with h3 | ⟨a, h4, h5⟩
          · exact .inl h3
          · exact .inr ⟨a, by omega, h5⟩
  exact key 0 (by omega) 268435456 (by omega) (fun a ha => by omega) (.inl rfl)
theorem u_first {σ : zS} {m : Int64} {x : Nat} {v : Nat → Nat} {Q : zQ} (hr : LRoutes σ) (hx : x ≤ 268435456) (hv : ∀ a, a < 48 → gA σ 58 a = Int32.ofInt (v a) ∧ v a ≤ 268435456) (hQ : Q (.inl (some (.int (Int32.ofInt (oI (lw (fun b => b < 48 ∧ bt m b = true ∧ v b = x ∧ x < 268435456))))))) (hOf σ)) : zW zP 45 [.ref 56, .long m, .int (Int32.ofInt x)] (hOf σ) Q := by
  rw [zWE]
  simp only [zx_iconst, zx_bipush, zx_sipush, zx_lconst, zx_ldc, zx_ldcS, zx_ldc_w, zx_ldc2_w, zx_iload, zx_lload, zx_aload, zx_istore_n, zx_istore, zx_lstore_n, zx_lstore, zx_astore_n, zx_astore, zx_iinc, zx_iadd, zx_isub, zx_imul, zx_iand, zx_ior, zx_ixor, zx_ishl, zx_ishr, zx_iushr, zx_idiv, zx_irem, zx_ineg, zx_ladd, zx_lsub, zx_land, zx_lor, zx_lxor, zx_lneg, zx_lshl, zx_lushr, zx_i2l, zx_l2i, zx_lcmp, zx_dup, zx_dup2, zx_pop, zx_goto, zx_if_eq, zx_if_ne, zx_if_lt, zx_if_ge, zx_if_gt, zx_if_le, zx_icmp_eq, zx_icmp_ne, zx_icmp_lt, zx_icmp_ge, zx_icmp_gt, zx_icmp_le, zx_getfield, zx_putfield, zx_iaload, zx_laload, zx_aaload, zx_iastore, zx_lastore, zx_arraylength, zx_ireturn, zx_lreturn, zx_areturn, zx_return, zx_athrow, zx_static0, zx_static1, zx_virt1, zx_static2, zx_virt2, zx_static3, zx_virt3, zx_static4, zx_virt4, zx_static5, zx_virt5, zx_static6, zx_virt6, zx_static7, zx_virt7, zx_cpI, zx_cpL, ↓cpI, ↓cpL, zx_slen, zx_schr, zx_tsw, zx_spec3, new_X, zx_new1, zrun_nil, zrun_cons, ↓zgi_h, ↓zgi_n, ↓zgl_h, ↓zgl_n, ↓zgr_h, ↓zgr_n, zset1, zset2, zins_nil, zins_c, f3, cat_i, cat_l, cat_r, List.filter_cons, List.filter_nil, Bool.false_eq_true, l_of0, lv_args, Nat.reduceBEq, Nat.reduceAdd, Nat.reduceLeDiff, Nat.reduceLT, Bool.not_true, Bool.not_false, Bool.and_true, Bool.true_and, Bool.and_false, Bool.false_and, Nat.reduceEqDiff, reduceIte, List.contains_cons, List.contains_nil, Bool.or_false, Bool.or_true, Bool.false_or, Bool.true_or, Fin.isValue, Fin.val_zero, Fin.val_one, Fin.val_two, Fin.reduceFinMk, Option.toList_some, Option.toList_none, List.nil_append, List.cons_append, zwt_nil, zwt_i, zwt_l, zwt_r, zthr_nil, List.isEmpty_nil, zcE, ↓ar_k, lgc0, true_and, and_true, true_implies, implies_true, false_implies, forall_const, i_len, ob_0, ob_1, ↓bI_01, bI_0, not_true_eq_false, not_false_eq_true, Bool.not_eq_false, Bool.not_eq_true, ia_add, ia_sub, ia_mul, ia_neg, ↓ldI, ↓ldL, zaI_c, zaL_c, ↓zlen_I, ↓zlen_L, ↓stI, ↓stL, gD_sI, gN_sI, gI_sI, gJ_sI, gR_sI, gA_sI, gB_sI, gT_sI, gD_sJ, gN_sJ, gI_sJ, gJ_sJ, gR_sJ, gA_sJ, gB_sJ, gT_sJ, gD_sR, gN_sR, gI_sR, gJ_sR, gR_sR, gA_sR, gB_sR, gT_sR, gD_sA, gN_sA, gI_sA, gJ_sA, gR_sA, gA_sA, gB_sA, gT_sA, gD_sB, gN_sB, gI_sB, gJ_sB, gR_sB, gA_sB, gB_sB, gT_sB, zx_il0, zx_il1, zx_il2, zx_il3, zx_ll0, zx_ll1, zx_ll2, zx_ll3, zx_al0, zx_al1, zx_al2, zx_al3, e_has, e_bA, e_mn, e_mx, e_pcI, e_pcL, e_low, zml_45, zg45_0, zb45_0, zb45_3, zg45_39, zb45_39, zg45_45, zb45_45, zmc_45, zms_45, zow_45, zhd_45, zmc_31, zms_31, zow_31, zhd_31, ↓gf_5_1, show (Int8.ofInt 48).toInt32 = Int32.ofInt 48 from rfl, show ztg 13 32 = 45 from rfl, show ztg 22 17 = 39 from rfl, show ztg 33 6 = 39 from rfl, show ztg 42 (-39) = 3 from rfl, show ztg 7 38 = 45 from rfl, LRoutes_d hr, LRoutes_r0 hr, LRoutes_k0 hr, LRoutes_n0 hr, LRoutes_r1 hr, LRoutes_k1 hr, LRoutes_n1 hr]
  have key : ∀ i : Nat, i ≤ 48 → (∀ b, b < i → ¬ (bt m b = true ∧ v b = x ∧ x < 268435456)) → zfp zP (zcall zP 45) 45 Q 3 [(0, .ref 56), (1, .long m), (3, .int (Int32.ofInt x)), (4, .int (Int32.ofInt i))] [] (hOf σ) 0 0 := by
    refine bk _ ?_
    intro i hi ih h1
    have fin : (∀ b, b < 48 → ¬ (bt m b = true ∧ v b = x ∧ x < 268435456)) → Q (.inl (some (.int (Int32.ofInt (-1))))) (hOf σ) := by
      intro hn
      rw [lw_none.2 (fun b hb => hn b hb.1 hb.2)] at hQ
      exact hQ
    rw [zg45_3]
    simp only [zx_iconst, zx_bipush, zx_sipush, zx_lconst, zx_ldc, zx_ldcS, zx_ldc_w, zx_ldc2_w, zx_iload, zx_lload, zx_aload, zx_istore_n, zx_istore, zx_lstore_n, zx_lstore, zx_astore_n, zx_astore, zx_iinc, zx_iadd, zx_isub, zx_imul, zx_iand, zx_ior, zx_ixor, zx_ishl, zx_ishr, zx_iushr, zx_idiv, zx_irem, zx_ineg, zx_ladd, zx_lsub, zx_land, zx_lor, zx_lxor, zx_lneg, zx_lshl, zx_lushr, zx_i2l, zx_l2i, zx_lcmp, zx_dup, zx_dup2, zx_pop, zx_goto, zx_if_eq, zx_if_ne, zx_if_lt, zx_if_ge, zx_if_gt, zx_if_le, zx_icmp_eq, zx_icmp_ne, zx_icmp_lt, zx_icmp_ge, zx_icmp_gt, zx_icmp_le, zx_getfield, zx_putfield, zx_iaload, zx_laload, zx_aaload, zx_iastore, zx_lastore, zx_arraylength, zx_ireturn, zx_lreturn, zx_areturn, zx_return, zx_athrow, zx_static0, zx_static1, zx_virt1, zx_static2, zx_virt2, zx_static3, zx_virt3, zx_static4, zx_virt4, zx_static5, zx_virt5, zx_static6, zx_virt6, zx_static7, zx_virt7, zx_cpI, zx_cpL, ↓cpI, ↓cpL, zx_slen, zx_schr, zx_tsw, zx_spec3, new_X, zx_new1, zrun_nil, zrun_cons, ↓zgi_h, ↓zgi_n, ↓zgl_h, ↓zgl_n, ↓zgr_h, ↓zgr_n, zset1, zset2, zins_nil, zins_c, f3, cat_i, cat_l, cat_r, List.filter_cons, List.filter_nil, Bool.false_eq_true, l_of0, lv_args, Nat.reduceBEq, Nat.reduceAdd, Nat.reduceLeDiff, Nat.reduceLT, Bool.not_true, Bool.not_false, Bool.and_true, Bool.true_and, Bool.and_false, Bool.false_and, Nat.reduceEqDiff, reduceIte, List.contains_cons, List.contains_nil, Bool.or_false, Bool.or_true, Bool.false_or, Bool.true_or, Fin.isValue, Fin.val_zero, Fin.val_one, Fin.val_two, Fin.reduceFinMk, Option.toList_some, Option.toList_none, List.nil_append, List.cons_append, zwt_nil, zwt_i, zwt_l, zwt_r, zthr_nil, List.isEmpty_nil, zcE, ↓ar_k, lgc0, true_and, and_true, true_implies, implies_true, false_implies, forall_const, i_len, ob_0, ob_1, ↓bI_01, bI_0, not_true_eq_false, not_false_eq_true, Bool.not_eq_false, Bool.not_eq_true, ia_add, ia_sub, ia_mul, ia_neg, ↓ldI, ↓ldL, zaI_c, zaL_c, ↓zlen_I, ↓zlen_L, ↓stI, ↓stL, gD_sI, gN_sI, gI_sI, gJ_sI, gR_sI, gA_sI, gB_sI, gT_sI, gD_sJ, gN_sJ, gI_sJ, gJ_sJ, gR_sJ, gA_sJ, gB_sJ, gT_sJ, gD_sR, gN_sR, gI_sR, gJ_sR, gR_sR, gA_sR, gB_sR, gT_sR, gD_sA, gN_sA, gI_sA, gJ_sA, gR_sA, gA_sA, gB_sA, gT_sA, gD_sB, gN_sB, gI_sB, gJ_sB, gR_sB, gA_sB, gB_sB, gT_sB, zx_il0, zx_il1, zx_il2, zx_il3, zx_ll0, zx_ll1, zx_ll2, zx_ll3, zx_al0, zx_al1, zx_al2, zx_al3, e_has, e_bA, e_mn, e_mx, e_pcI, e_pcL, e_low, zml_45, zg45_0, zb45_0, zb45_3, zg45_39, zb45_39, zg45_45, zb45_45, zmc_45, zms_45, zow_45, zhd_45, zmc_31, zms_31, zow_31, zhd_31, ↓gf_5_1, show (Int8.ofInt 48).toInt32 = Int32.ofInt 48 from rfl, show ztg 13 32 = 45 from rfl, show ztg 22 17 = 39 from rfl, show ztg 33 6 = 39 from rfl, show ztg 42 (-39) = 3 from rfl, show ztg 7 38 = 45 from rfl, LRoutes_d hr, LRoutes_r0 hr, LRoutes_k0 hr, LRoutes_n0 hr, LRoutes_r1 hr, LRoutes_k1 hr, LRoutes_n1 hr]
    try simp (disch := omega) only [ii_lt, ii_le, ii_eq, ii_eq0, ii_lt0, ii_0lt, ii_le0, ii_0le, i_inT, i_natN, i_nat, ia_div, ia_rem, hs_ofI, i_1shl, i_or, i_bit, true_and, and_true, not_true_eq_false, not_false_eq_true, true_implies, false_implies, implies_true, Int.reduceLT, Int.reduceLE, Int.reduceEq, Int.reduceNeg, Int.toNat_natCast, Int.reduceToNat, Nat.reduceLeDiff, Nat.reduceAdd, tn_2, tn_2p, tn_48, tn_48r, tn_3, tn_3p, tn_3q, tn_p1, tn_d2, tn_12]
    refine ⟨fun c => fin (fun b hb => h1 b (by omega)), fun c => ⟨fun c2 => fin (fun b hb z => by have := z.2.2; omega), fun c2 => ⟨fun c3 => ?_, fun c3 => ?_⟩⟩⟩
    · refine ih (by omega) (fun b hb z => ?_)
      by_cases e : b = i
      · rw [e, c3] at z
        cases z.1
      · exact h1 b (by omega) z
    · have hvi := hv i (by omega)
      have hv2 := hvi.2
      simp only [hvi.1]
      try simp (disch := omega) only [ii_lt, ii_le, ii_eq, ii_eq0, ii_lt0, ii_0lt, ii_le0, ii_0le, i_inT, i_natN, i_nat, ia_div, ia_rem, hs_ofI, i_1shl, i_or, i_bit, true_and, and_true, not_true_eq_false, not_false_eq_true, true_implies, false_implies, implies_true, Int.reduceLT, Int.reduceLE, Int.reduceEq, Int.reduceNeg, Int.toNat_natCast, Int.reduceToNat, Nat.reduceLeDiff, Nat.reduceAdd, tn_2, tn_2p, tn_48, tn_48r, tn_3, tn_3p, tn_3q, tn_p1, tn_d2, tn_12]
      refine ⟨fun c4 => ?_, fun c4 => ?_⟩
      · refine ih (by omega) (fun b hb z => ?_)
        by_cases e : b = i
        · rw [e] at z
          have := z.2.1
          omega
        · exact h1 b (by omega) z
      · have : lw (fun b => b < 48 ∧ bt m b = true ∧ v b = x ∧ x < 268435456) = some i := lw_some.2 ⟨⟨by omega, c3, by omega, by omega⟩, fun b hb z => h1 b hb z.2⟩
        rw [this] at hQ
        exact hQ
  exact key 0 (by omega) (fun b hb => by omega)
/-- the first arc of the first of the shortest; the one behind an arc; the k-th; how many -/
noncomputable def fa (T : Tw) (R : Nat → Nat → Bool) (c f : Nat) : Option Nat := lw (fun a => isA T a = true ∧ bg T a = f ∧ f ≠ c ∧ ∃ d, sd T R c a = some d ∧ ∀ b e, isA T b = true → bg T b = f → sd T R c b = some e → d ≤ e)
noncomputable def na (T : Tw) (R : Nat → Nat → Bool) (c a : Nat) : Option Nat := lw (fun b => en T a ≠ c ∧ R a b = true ∧ ∃ d e, sd T R c a = some d ∧ sd T R c b = some e ∧ d = ln T a + e)
noncomputable def rl (T : Tw) (R : Nat → Nat → Bool) (c f : Nat) : Option Nat := if f = c then some 0 else (fa T R c f).bind (sd T R c)
noncomputable def pk (T : Tw) (R : Nat → Nat → Bool) (c f : Nat) : Nat → Option Nat
  | 0 => fa T R c f
  | k + 1 => (pk T R c f k).bind (na T R c)
noncomputable def pn (T : Tw) (R : Nat → Nat → Bool) (c f : Nat) : Nat := fr 0 (lw (fun k => pk T R c f k = none))
theorem sd_wk {T : Tw} {R : Nat → Nat → Bool} {c a n d : Nat} (h : wk T R c n a d) : ∃ e, sd T R c a = some e ∧ e ≤ d := by
  obtain ⟨e, he⟩ := isD_ex d n h
  exact ⟨e, sd_some.2 he, he.2 n d h⟩
theorem sd_up {T : Tw} {R : Nat → Nat → Bool} {c a b e : Nat} (h : R a b = true) (hb : sd T R c b = some e) : ∃ d, sd T R c a = some d ∧ d ≤ ln T a + e := by
  obtain ⟨n, hn⟩ := (sd_some.1 hb).1
  exact sd_wk (n := n + 1) ⟨b, e, h, hn, rfl⟩
theorem sd_end {T : Tw} {R : Nat → Nat → Bool} {c a : Nat} (h : isA T a = true) (he : en T a = c) : sd T R c a = some (ln T a) := by
  rw [sd_some]
  refine ⟨⟨0, h, he, rfl⟩, ?_⟩
  intro n d hk
  cases n with
  | zero => rw [hk.2.2]; exact Nat.le_refl _
  | succ n =>
    obtain ⟨b, e, _, _, h3⟩ := hk
    omega
theorem sd_dn {T : Tw} {R : Nat → Nat → Bool} {c a d : Nat} (h : sd T R c a = some d) (he : en T a ≠ c) : ∃ b e, R a b = true ∧ sd T R c b = some e ∧ d = ln T a + e := by
  obtain ⟨⟨n, hn⟩, hm⟩ := sd_some.1 h
  cases n with
  | zero => exact absurd hn.2.1 he
  | succ n =>
    obtain ⟨b, e, h1, h2, h3⟩ := hn
    obtain ⟨e2, h4, h5⟩ := sd_wk h2
    obtain ⟨d2, h6, h7⟩ := sd_up h1 h4
    rw [h] at h6
    cases h6
    exact ⟨b, e2, h1, h4, by omega⟩
theorem sd_ge {T : Tw} {R : Nat → Nat → Bool} {c a d : Nat} (h : sd T R c a = some d) : ln T a ≤ d := by
  obtain ⟨⟨n, hn⟩, hm⟩ := sd_some.1 h
  cases n with
  | zero => rw [hn.2.2]; exact Nat.le_refl _
  | succ n =>
    obtain ⟨b, e, _, _, h3⟩ := hn
    omega
theorem sd_A {T : Tw} {R : Nat → Nat → Bool} {c a d : Nat} (hR : ∀ a b, R a b = true → isA T a = true ∧ isA T b = true) (h : sd T R c a = some d) : isA T a = true := by
  obtain ⟨⟨n, hn⟩, _⟩ := sd_some.1 h
  exact wk_A hR n a d hn
theorem na_ex {T : Tw} {R : Nat → Nat → Bool} {c a d : Nat} (h : sd T R c a = some d) (he : en T a ≠ c) : ∃ b, na T R c a = some b := by
  obtain ⟨b, e, h1, h2, h3⟩ := sd_dn h he
  cases hn : na T R c a with
  | some b => exact ⟨b, rfl⟩
  | none => exact absurd ⟨he, h1, d, e, h, h2, h3⟩ (lw_none.1 hn b)
theorem cp_one {p q : Nat → Bool} {n a : Nat} (ha : a < n) (hq : q a = true) (hp : p a = false) (h : ∀ j, j < n → p j = true → q j = true) : cp p n + 1 ≤ cp q n := by
  rw [cp_rem (q := fun j => q j && decide (j ≠ a)) n ha hq (fun _ => rfl)]
  have := cp_mono (p := p) (q := fun j => q j && decide (j ≠ a)) n (fun j hj hpj => by
    have e : j ≠ a := by
      intro e
      rw [e, hp] at hpj
      cases hpj
    show (q j && decide (j ≠ a)) = true
    rw [h j hj hpj, decide_eq_true e]
    rfl)
  omega
theorem pk_cnt {T : Tw} {R : Nat → Nat → Bool} {c f : Nat} (hw : wf T) (hR : ∀ a b, R a b = true → isA T a = true ∧ isA T b = true) : ∀ k a, pk T R c f k = some a → isA T a = true ∧ ∃ d, sd T R c a = some d ∧ k + 1 ≤ cp (fun x => cB (∃ e, sd T R c x = some e ∧ d ≤ e)) 48 := by
  have h24 := hw.2.1
  intro k
  induction k with
  | zero =>
    intro a ha
    obtain ⟨⟨h1, h2, h3, d, h4, _⟩, _⟩ := lw_some.1 ha
    refine ⟨h1, d, h4, ?_⟩
    exact cp_pos 48 a (by have := isA_lt h1; omega) (cB_iff.2 ⟨d, h4, Nat.le_refl _⟩)
  | succ k ih =>
    intro a ha
    have ha : (pk T R c f k).bind (na T R c) = some a := ha
    cases hp : pk T R c f k with
    | none =>
      rw [hp] at ha
      cases ha
    | some a0 =>
      rw [hp] at ha
      obtain ⟨⟨h1, h2, d, e, h3, h4, h5⟩, _⟩ := lw_some.1 ha
      obtain ⟨i1, d0, i2, i3⟩ := ih a0 hp
      rw [h3] at i2
      cases i2
      have hl := (wf_bg hw (isA_lt i1)).2.2.2.1
      have hA := (hR a0 a h2).2
      refine ⟨hA, e, h4, ?_⟩
      have := cp_one (n := 48) (a := a) (p := fun x => cB (∃ e, sd T R c x = some e ∧ d ≤ e)) (q := fun x => cB (∃ e2, sd T R c x = some e2 ∧ e ≤ e2)) (by have := isA_lt hA; omega) (cB_iff.2 ⟨e, h4, Nat.le_refl _⟩) (cB_f.2 (fun ⟨e2, z1, z2⟩ => by rw [h4] at z1; cases z1; omega)) (fun j hj z => by
        obtain ⟨e2, z1, z2⟩ := cB_iff.1 z
        exact cB_iff.2 ⟨e2, z1, by omega⟩)
      omega
theorem pk_48 {T : Tw} {R : Nat → Nat → Bool} {c f k a : Nat} (hw : wf T) (hR : ∀ a b, R a b = true → isA T a = true ∧ isA T b = true) (h : pk T R c f k = some a) : k < 48 := by
  obtain ⟨_, d, _, h2⟩ := pk_cnt hw hR k a h
  have := cp_le (p := fun x => cB (∃ e, sd T R c x = some e ∧ d ≤ e)) 48
  omega
theorem pk_ex {T : Tw} {R : Nat → Nat → Bool} {c f k a : Nat} (hw : wf T) (hR : ∀ a b, R a b = true → isA T a = true ∧ isA T b = true) (h : pk T R c f k = some a) (he : en T a ≠ c) : ∃ b, pk T R c f (k + 1) = some b := by
  obtain ⟨_, d, h1, _⟩ := pk_cnt hw hR k a h
  obtain ⟨b, hb⟩ := na_ex h1 he
  refine ⟨b, ?_⟩
  show (pk T R c f k).bind (na T R c) = some b
  rw [h]
  exact hb
theorem pk_stop {T : Tw} {R : Nat → Nat → Bool} {c f k a : Nat} (h : pk T R c f k = some a) (he : en T a = c) : pk T R c f (k + 1) = none := by
  show (pk T R c f k).bind (na T R c) = none
  rw [h]
  exact lw_none.2 (fun n z => z.1 he)
theorem pk_none {T : Tw} {R : Nat → Nat → Bool} {c f k : Nat} (h : pk T R c f k = none) : ∀ d, pk T R c f (k + d) = none := by
  intro d
  induction d with
  | zero => exact h
  | succ d ih =>
    show (pk T R c f (k + d)).bind (na T R c) = none
    rw [ih]
    rfl
theorem pn_of {T : Tw} {R : Nat → Nat → Bool} {c f k : Nat} (h : pk T R c f k = none) (h2 : ∀ j, k = j + 1 → ∃ a, pk T R c f j = some a) : pn T R c f = k := by
  have : lw (fun k => pk T R c f k = none) = some k := by
    rw [lw_some]
    refine ⟨h, fun m hm z => ?_⟩
    obtain ⟨j, rfl⟩ : ∃ j, k = j + 1 := ⟨k - 1, by omega⟩
    obtain ⟨a, ha⟩ := h2 j rfl
    have := pk_none z (j - m)
    rw [show m + (j - m) = j from by omega, ha] at this
    cases this
  unfold pn
  rw [this]
  rfl
theorem pn_pk {T : Tw} {R : Nat → Nat → Bool} {c f k : Nat} (hw : wf T) (hR : ∀ a b, R a b = true → isA T a = true ∧ isA T b = true) : (k < pn T R c f ↔ ∃ a, pk T R c f k = some a) ∧ pn T R c f ≤ 48 := by
  have h48 : pk T R c f 48 = none := by
    cases e : pk T R c f 48 with
    | none => rfl
    | some a => exact absurd (pk_48 hw hR e) (by omega)
  obtain ⟨m, hm⟩ := lw_least (p := fun k => pk T R c f k = none) 48 h48
  have e : pn T R c f = m := by
    unfold pn
    rw [lw_some.2 hm]
    rfl
  rw [e]
  refine ⟨⟨fun hk => ?_, fun ⟨a, ha⟩ => ?_⟩, ?_⟩
  · cases e2 : pk T R c f k with
    | none => exact absurd e2 (hm.2 k hk)
    | some a => exact ⟨a, rfl⟩
  · apply Classical.byContradiction
    intro hn
    have := pk_none hm.1 (k - m)
    rw [show m + (k - m) = k from by omega, ha] at this
    cases this
  · apply Classical.byContradiction
    intro hn
    exact hm.2 48 (by omega) h48
theorem fr_eq {far : Nat} {o : Option Nat} {x : Nat} (hb : ∀ d, o = some d → d < far) (h : fr far o = x) (hx : x < far) : o = some x := by
  cases o with
  | none =>
    have h : far = x := h
    omega
  | some d =>
    have h : d = x := h
    rw [h]
theorem fr_le {o : Option Nat} (hb : ∀ d, o = some d → d ≤ 4851) : fr 268435456 o ≤ 268435456 := by
  cases o with
  | none => exact Nat.le_refl _
  | some d =>
    have := hb d rfl
    show d ≤ _
    omega
theorem lw_fa {T : Tw} {R : Nat → Nat → Bool} {c f x : Nat} {m : Int64} (hw : wf T) (hb : ∀ a d, sd T R c a = some d → d ≤ 4851) (hfc : f ≠ c) (hm : ∀ a, bt m a = (isA T a && decide (bg T a = f))) (h1 : ∀ a, a < 48 → bt m a = true → x ≤ fr 268435456 (sd T R c a)) (h2 : x = 268435456 ∨ ∃ a, a < 48 ∧ bt m a = true ∧ fr 268435456 (sd T R c a) = x) : lw (fun b => b < 48 ∧ bt m b = true ∧ fr 268435456 (sd T R c b) = x ∧ x < 268435456) = fa T R c f := by
  have h24 := hw.2.1
  refine lw_congr (fun a => ⟨fun ⟨z1, z2, z3, z4⟩ => ?_, fun ⟨z1, z2, _, d, z3, z4⟩ => ?_⟩)
  · rw [hm, Bool.and_eq_true, decide_eq_true_eq] at z2
    refine ⟨z2.1, z2.2, hfc, x, fr_eq (fun d hd => by have := hb a d hd; omega) z3 z4, fun b e y1 y2 y3 => ?_⟩
    have := h1 b (by have := isA_lt y1; omega) (by rw [hm, y1, decide_eq_true y2]; rfl)
    rw [y3] at this
    exact this
  · have al : a < 48 := by have := isA_lt z1; omega
    have am : bt m a = true := by rw [hm, z1, decide_eq_true z2]; rfl
    have k1 := h1 a al am
    rw [z3] at k1
    have k1 : x ≤ d := k1
    have k2 := hb a d z3
    refine ⟨al, am, ?_, by omega⟩
    rw [z3]
    show d = x
    rcases h2 with h2 | ⟨b, y1, y2, y3⟩
    · omega
    · rw [hm, Bool.and_eq_true, decide_eq_true_eq] at y2
      have y4 := fr_eq (fun d hd => by have := hb b d hd; omega) y3 (by omega)
      have := z4 b x y2.1 y2.2 y4
      omega
theorem u_len {σ : zS} {t c f : Nat} {T : Tw} {R : Nat → Nat → Bool} {Q : zQ} (h : CT σ t T) (hw : wf T) (hS : CS σ t T) (hr : LRoutes σ) (hc : gI σ 56 2 = Int32.ofInt c) (hcn : c < nC T) (hv : ∀ a, a < 48 → gA σ 58 a = Int32.ofInt (fr 268435456 (sd T R c a))) (hb : ∀ a d, sd T R c a = some d → d ≤ 4851) (hf : f < nC T) (hQ : Q (.inl (some (.int (Int32.ofInt (oI (rl T R c f)))))) (hOf σ)) : zW zP 61 [.ref 56, .ref t, .int (Int32.ofInt f)] (hOf σ) Q := by
  have ht := CT_t h
  have h24 := hw.2.1
  have h16 := hw.1
  have hv2 : ∀ a, a < 48 → gA σ 58 a = Int32.ofInt (fr 268435456 (sd T R c a)) ∧ fr 268435456 (sd T R c a) ≤ 268435456 := fun a ha => ⟨hv a ha, fr_le (hb a)⟩
  rw [zWE]
  simp only [zx_iconst, zx_bipush, zx_sipush, zx_lconst, zx_ldc, zx_ldcS, zx_ldc_w, zx_ldc2_w, zx_iload, zx_lload, zx_aload, zx_istore_n, zx_istore, zx_lstore_n, zx_lstore, zx_astore_n, zx_astore, zx_iinc, zx_iadd, zx_isub, zx_imul, zx_iand, zx_ior, zx_ixor, zx_ishl, zx_ishr, zx_iushr, zx_idiv, zx_irem, zx_ineg, zx_ladd, zx_lsub, zx_land, zx_lor, zx_lxor, zx_lneg, zx_lshl, zx_lushr, zx_i2l, zx_l2i, zx_lcmp, zx_dup, zx_dup2, zx_pop, zx_goto, zx_if_eq, zx_if_ne, zx_if_lt, zx_if_ge, zx_if_gt, zx_if_le, zx_icmp_eq, zx_icmp_ne, zx_icmp_lt, zx_icmp_ge, zx_icmp_gt, zx_icmp_le, zx_getfield, zx_putfield, zx_iaload, zx_laload, zx_aaload, zx_iastore, zx_lastore, zx_arraylength, zx_ireturn, zx_lreturn, zx_areturn, zx_return, zx_athrow, zx_static0, zx_static1, zx_virt1, zx_static2, zx_virt2, zx_static3, zx_virt3, zx_static4, zx_virt4, zx_static5, zx_virt5, zx_static6, zx_virt6, zx_static7, zx_virt7, zx_cpI, zx_cpL, ↓cpI, ↓cpL, zx_slen, zx_schr, zx_tsw, zx_spec3, new_X, zx_new1, zrun_nil, zrun_cons, ↓zgi_h, ↓zgi_n, ↓zgl_h, ↓zgl_n, ↓zgr_h, ↓zgr_n, zset1, zset2, zins_nil, zins_c, f3, cat_i, cat_l, cat_r, List.filter_cons, List.filter_nil, Bool.false_eq_true, l_of0, lv_args, Nat.reduceBEq, Nat.reduceAdd, Nat.reduceLeDiff, Nat.reduceLT, Bool.not_true, Bool.not_false, Bool.and_true, Bool.true_and, Bool.and_false, Bool.false_and, Nat.reduceEqDiff, reduceIte, List.contains_cons, List.contains_nil, Bool.or_false, Bool.or_true, Bool.false_or, Bool.true_or, Fin.isValue, Fin.val_zero, Fin.val_one, Fin.val_two, Fin.reduceFinMk, Option.toList_some, Option.toList_none, List.nil_append, List.cons_append, zwt_nil, zwt_i, zwt_l, zwt_r, zthr_nil, List.isEmpty_nil, zcE, ↓ar_k, lgc0, true_and, and_true, true_implies, implies_true, false_implies, forall_const, i_len, ob_0, ob_1, ↓bI_01, bI_0, not_true_eq_false, not_false_eq_true, Bool.not_eq_false, Bool.not_eq_true, ia_add, ia_sub, ia_mul, ia_neg, ↓ldI, ↓ldL, zaI_c, zaL_c, ↓zlen_I, ↓zlen_L, ↓stI, ↓stL, gD_sI, gN_sI, gI_sI, gJ_sI, gR_sI, gA_sI, gB_sI, gT_sI, gD_sJ, gN_sJ, gI_sJ, gJ_sJ, gR_sJ, gA_sJ, gB_sJ, gT_sJ, gD_sR, gN_sR, gI_sR, gJ_sR, gR_sR, gA_sR, gB_sR, gT_sR, gD_sA, gN_sA, gI_sA, gJ_sA, gR_sA, gA_sA, gB_sA, gT_sA, gD_sB, gN_sB, gI_sB, gJ_sB, gR_sB, gA_sB, gB_sB, gT_sB, zx_il0, zx_il1, zx_il2, zx_il3, zx_ll0, zx_ll1, zx_ll2, zx_ll3, zx_al0, zx_al1, zx_al2, zx_al3, e_has, e_bA, e_mn, e_mx, e_pcI, e_pcL, e_low, zml_61, zg61_0, zb61_0, zg61_10, zb61_10, zg61_40, zb61_40, zg61_46, zb61_46, zmc_45, zms_45, zow_45, zhd_45, zmc_61, zms_61, zow_61, zhd_61, zmc_46, zms_46, zow_46, zhd_46, ↓gf_5_1, ↓gf_5_2, ↓gf_8_14, ↓gv_5, show ztg 33 7 = 40 from rfl, show ztg 37 9 = 46 from rfl, show ztg 5 5 = 10 from rfl, LTown_g (CT_L h), LTown_d (CT_L h), LTown_r6 (CT_L h), LTown_k6 (CT_L h), LTown_n6 (CT_L h), LTown_r7 (CT_L h), LTown_k7 (CT_L h), LTown_n7 (CT_L h), LTown_r8 (CT_L h), LTown_k8 (CT_L h), LTown_n8 (CT_L h), LTown_r9 (CT_L h), LTown_k9 (CT_L h), LTown_n9 (CT_L h), LTown_r10 (CT_L h), LTown_k10 (CT_L h), LTown_n10 (CT_L h), LTown_r11 (CT_L h), LTown_k11 (CT_L h), LTown_n11 (CT_L h), LTown_r12 (CT_L h), LTown_k12 (CT_L h), LTown_n12 (CT_L h), LTown_r13 (CT_L h), LTown_k13 (CT_L h), LTown_n13 (CT_L h), LTown_r14 (CT_L h), LTown_k14 (CT_L h), LTown_n14 (CT_L h), LTown_r15 (CT_L h), LTown_k15 (CT_L h), LTown_n15 (CT_L h), LTown_r16 (CT_L h), LTown_k16 (CT_L h), LTown_n16 (CT_L h), LTown_r17 (CT_L h), LTown_k17 (CT_L h), LTown_n17 (CT_L h), LTown_r18 (CT_L h), LTown_k18 (CT_L h), LTown_n18 (CT_L h), LRoutes_d hr, LRoutes_r0 hr, LRoutes_k0 hr, LRoutes_n0 hr, LRoutes_r1 hr, LRoutes_k1 hr, LRoutes_n1 hr, hc]
  try simp (disch := omega) only [ii_lt, ii_le, ii_eq, ii_eq0, ii_lt0, ii_0lt, ii_le0, ii_0le, i_inT, i_natN, i_nat, ia_div, ia_rem, hs_ofI, i_1shl, i_or, i_bit, true_and, and_true, not_true_eq_false, not_false_eq_true, true_implies, false_implies, implies_true, Int.reduceLT, Int.reduceLE, Int.reduceEq, Int.reduceNeg, Int.toNat_natCast, Int.reduceToNat, Nat.reduceLeDiff, Nat.reduceAdd, tn_2, tn_2p, tn_48, tn_48r, tn_3, tn_3p, tn_3q, tn_p1, tn_d2, tn_12]
  refine ⟨fun c1 => ?_, fun c1 => ?_⟩
  · refine u_least hr (v := fun a => fr 268435456 (sd T R c a)) hv2 ?_
    intro x x1 x2 x3
    simp only [zx_iconst, zx_bipush, zx_sipush, zx_lconst, zx_ldc, zx_ldcS, zx_ldc_w, zx_ldc2_w, zx_iload, zx_lload, zx_aload, zx_istore_n, zx_istore, zx_lstore_n, zx_lstore, zx_astore_n, zx_astore, zx_iinc, zx_iadd, zx_isub, zx_imul, zx_iand, zx_ior, zx_ixor, zx_ishl, zx_ishr, zx_iushr, zx_idiv, zx_irem, zx_ineg, zx_ladd, zx_lsub, zx_land, zx_lor, zx_lxor, zx_lneg, zx_lshl, zx_lushr, zx_i2l, zx_l2i, zx_lcmp, zx_dup, zx_dup2, zx_pop, zx_goto, zx_if_eq, zx_if_ne, zx_if_lt, zx_if_ge, zx_if_gt, zx_if_le, zx_icmp_eq, zx_icmp_ne, zx_icmp_lt, zx_icmp_ge, zx_icmp_gt, zx_icmp_le, zx_getfield, zx_putfield, zx_iaload, zx_laload, zx_aaload, zx_iastore, zx_lastore, zx_arraylength, zx_ireturn, zx_lreturn, zx_areturn, zx_return, zx_athrow, zx_static0, zx_static1, zx_virt1, zx_static2, zx_virt2, zx_static3, zx_virt3, zx_static4, zx_virt4, zx_static5, zx_virt5, zx_static6, zx_virt6, zx_static7, zx_virt7, zx_cpI, zx_cpL, ↓cpI, ↓cpL, zx_slen, zx_schr, zx_tsw, zx_spec3, new_X, zx_new1, zrun_nil, zrun_cons, ↓zgi_h, ↓zgi_n, ↓zgl_h, ↓zgl_n, ↓zgr_h, ↓zgr_n, zset1, zset2, zins_nil, zins_c, f3, cat_i, cat_l, cat_r, List.filter_cons, List.filter_nil, Bool.false_eq_true, l_of0, lv_args, Nat.reduceBEq, Nat.reduceAdd, Nat.reduceLeDiff, Nat.reduceLT, Bool.not_true, Bool.not_false, Bool.and_true, Bool.true_and, Bool.and_false, Bool.false_and, Nat.reduceEqDiff, reduceIte, List.contains_cons, List.contains_nil, Bool.or_false, Bool.or_true, Bool.false_or, Bool.true_or, Fin.isValue, Fin.val_zero, Fin.val_one, Fin.val_two, Fin.reduceFinMk, Option.toList_some, Option.toList_none, List.nil_append, List.cons_append, zwt_nil, zwt_i, zwt_l, zwt_r, zthr_nil, List.isEmpty_nil, zcE, ↓ar_k, lgc0, true_and, and_true, true_implies, implies_true, false_implies, forall_const, i_len, ob_0, ob_1, ↓bI_01, bI_0, not_true_eq_false, not_false_eq_true, Bool.not_eq_false, Bool.not_eq_true, ia_add, ia_sub, ia_mul, ia_neg, ↓ldI, ↓ldL, zaI_c, zaL_c, ↓zlen_I, ↓zlen_L, ↓stI, ↓stL, gD_sI, gN_sI, gI_sI, gJ_sI, gR_sI, gA_sI, gB_sI, gT_sI, gD_sJ, gN_sJ, gI_sJ, gJ_sJ, gR_sJ, gA_sJ, gB_sJ, gT_sJ, gD_sR, gN_sR, gI_sR, gJ_sR, gR_sR, gA_sR, gB_sR, gT_sR, gD_sA, gN_sA, gI_sA, gJ_sA, gR_sA, gA_sA, gB_sA, gT_sA, gD_sB, gN_sB, gI_sB, gJ_sB, gR_sB, gA_sB, gB_sB, gT_sB, zx_il0, zx_il1, zx_il2, zx_il3, zx_ll0, zx_ll1, zx_ll2, zx_ll3, zx_al0, zx_al1, zx_al2, zx_al3, e_has, e_bA, e_mn, e_mx, e_pcI, e_pcL, e_low, zml_61, zg61_0, zb61_0, zg61_10, zb61_10, zg61_40, zb61_40, zg61_46, zb61_46, zmc_45, zms_45, zow_45, zhd_45, zmc_61, zms_61, zow_61, zhd_61, zmc_46, zms_46, zow_46, zhd_46, ↓gf_5_1, ↓gf_5_2, ↓gf_8_14, ↓gv_5, show ztg 33 7 = 40 from rfl, show ztg 37 9 = 46 from rfl, show ztg 5 5 = 10 from rfl, LRoutes_d hr, LRoutes_r0 hr, LRoutes_k0 hr, LRoutes_n0 hr, LRoutes_r1 hr, LRoutes_k1 hr, LRoutes_n1 hr]
    refine u_first hr x1 (v := fun a => fr 268435456 (sd T R c a)) hv2 ?_
    rw [lw_fa hw hb (by omega) (hS.1 f (by omega)) x2 x3]
    unfold rl at hQ
    rw [if_neg (by omega)] at hQ
    cases e : fa T R c f with
    | none =>
      rw [e] at hQ
      simp only [zx_iconst, zx_bipush, zx_sipush, zx_lconst, zx_ldc, zx_ldcS, zx_ldc_w, zx_ldc2_w, zx_iload, zx_lload, zx_aload, zx_istore_n, zx_istore, zx_lstore_n, zx_lstore, zx_astore_n, zx_astore, zx_iinc, zx_iadd, zx_isub, zx_imul, zx_iand, zx_ior, zx_ixor, zx_ishl, zx_ishr, zx_iushr, zx_idiv, zx_irem, zx_ineg, zx_ladd, zx_lsub, zx_land, zx_lor, zx_lxor, zx_lneg, zx_lshl, zx_lushr, zx_i2l, zx_l2i, zx_lcmp, zx_dup, zx_dup2, zx_pop, zx_goto, zx_if_eq, zx_if_ne, zx_if_lt, zx_if_ge, zx_if_gt, zx_if_le, zx_icmp_eq, zx_icmp_ne, zx_icmp_lt, zx_icmp_ge, zx_icmp_gt, zx_icmp_le, zx_getfield, zx_putfield, zx_iaload, zx_laload, zx_aaload, zx_iastore, zx_lastore, zx_arraylength, zx_ireturn, zx_lreturn, zx_areturn, zx_return, zx_athrow, zx_static0, zx_static1, zx_virt1, zx_static2, zx_virt2, zx_static3, zx_virt3, zx_static4, zx_virt4, zx_static5, zx_virt5, zx_static6, zx_virt6, zx_static7, zx_virt7, zx_cpI, zx_cpL, ↓cpI, ↓cpL, zx_slen, zx_schr, zx_tsw, zx_spec3, new_X, zx_new1, zrun_nil, zrun_cons, ↓zgi_h, ↓zgi_n, ↓zgl_h, ↓zgl_n, ↓zgr_h, ↓zgr_n, zset1, zset2, zins_nil, zins_c, f3, cat_i, cat_l, cat_r, List.filter_cons, List.filter_nil, Bool.false_eq_true, l_of0, lv_args, Nat.reduceBEq, Nat.reduceAdd, Nat.reduceLeDiff, Nat.reduceLT, Bool.not_true, Bool.not_false, Bool.and_true, Bool.true_and, Bool.and_false, Bool.false_and, Nat.reduceEqDiff, reduceIte, List.contains_cons, List.contains_nil, Bool.or_false, Bool.or_true, Bool.false_or, Bool.true_or, Fin.isValue, Fin.val_zero, Fin.val_one, Fin.val_two, Fin.reduceFinMk, Option.toList_some, Option.toList_none, List.nil_append, List.cons_append, zwt_nil, zwt_i, zwt_l, zwt_r, zthr_nil, List.isEmpty_nil, zcE, ↓ar_k, lgc0, true_and, and_true, true_implies, implies_true, false_implies, forall_const, i_len, ob_0, ob_1, ↓bI_01, bI_0, not_true_eq_false, not_false_eq_true, Bool.not_eq_false, Bool.not_eq_true, ia_add, ia_sub, ia_mul, ia_neg, ↓ldI, ↓ldL, zaI_c, zaL_c, ↓zlen_I, ↓zlen_L, ↓stI, ↓stL, gD_sI, gN_sI, gI_sI, gJ_sI, gR_sI, gA_sI, gB_sI, gT_sI, gD_sJ, gN_sJ, gI_sJ, gJ_sJ, gR_sJ, gA_sJ, gB_sJ, gT_sJ, gD_sR, gN_sR, gI_sR, gJ_sR, gR_sR, gA_sR, gB_sR, gT_sR, gD_sA, gN_sA, gI_sA, gJ_sA, gR_sA, gA_sA, gB_sA, gT_sA, gD_sB, gN_sB, gI_sB, gJ_sB, gR_sB, gA_sB, gB_sB, gT_sB, zx_il0, zx_il1, zx_il2, zx_il3, zx_ll0, zx_ll1, zx_ll2, zx_ll3, zx_al0, zx_al1, zx_al2, zx_al3, e_has, e_bA, e_mn, e_mx, e_pcI, e_pcL, e_low, zml_61, zg61_0, zb61_0, zg61_10, zb61_10, zg61_40, zb61_40, zg61_46, zb61_46, zmc_45, zms_45, zow_45, zhd_45, zmc_61, zms_61, zow_61, zhd_61, zmc_46, zms_46, zow_46, zhd_46, ↓gf_5_1, ↓gf_5_2, ↓gf_8_14, ↓gv_5, show ztg 33 7 = 40 from rfl, show ztg 37 9 = 46 from rfl, show ztg 5 5 = 10 from rfl, oI_none, LRoutes_d hr, LRoutes_r0 hr, LRoutes_k0 hr, LRoutes_n0 hr, LRoutes_r1 hr, LRoutes_k1 hr, LRoutes_n1 hr]
      first
      | exact hQ
      | exact ⟨fun z => absurd rfl z, fun _ => hQ⟩
    | some a =>
      rw [e] at hQ
      obtain ⟨⟨a1, a2, a3, d, a4, _⟩, _⟩ := lw_some.1 e
      have al := isA_lt a1
      have hQ : Q (.inl (some (.int (Int32.ofInt (oI (sd T R c a)))))) (hOf σ) := hQ
      rw [a4] at hQ
      simp only [zx_iconst, zx_bipush, zx_sipush, zx_lconst, zx_ldc, zx_ldcS, zx_ldc_w, zx_ldc2_w, zx_iload, zx_lload, zx_aload, zx_istore_n, zx_istore, zx_lstore_n, zx_lstore, zx_astore_n, zx_astore, zx_iinc, zx_iadd, zx_isub, zx_imul, zx_iand, zx_ior, zx_ixor, zx_ishl, zx_ishr, zx_iushr, zx_idiv, zx_irem, zx_ineg, zx_ladd, zx_lsub, zx_land, zx_lor, zx_lxor, zx_lneg, zx_lshl, zx_lushr, zx_i2l, zx_l2i, zx_lcmp, zx_dup, zx_dup2, zx_pop, zx_goto, zx_if_eq, zx_if_ne, zx_if_lt, zx_if_ge, zx_if_gt, zx_if_le, zx_icmp_eq, zx_icmp_ne, zx_icmp_lt, zx_icmp_ge, zx_icmp_gt, zx_icmp_le, zx_getfield, zx_putfield, zx_iaload, zx_laload, zx_aaload, zx_iastore, zx_lastore, zx_arraylength, zx_ireturn, zx_lreturn, zx_areturn, zx_return, zx_athrow, zx_static0, zx_static1, zx_virt1, zx_static2, zx_virt2, zx_static3, zx_virt3, zx_static4, zx_virt4, zx_static5, zx_virt5, zx_static6, zx_virt6, zx_static7, zx_virt7, zx_cpI, zx_cpL, ↓cpI, ↓cpL, zx_slen, zx_schr, zx_tsw, zx_spec3, new_X, zx_new1, zrun_nil, zrun_cons, ↓zgi_h, ↓zgi_n, ↓zgl_h, ↓zgl_n, ↓zgr_h, ↓zgr_n, zset1, zset2, zins_nil, zins_c, f3, cat_i, cat_l, cat_r, List.filter_cons, List.filter_nil, Bool.false_eq_true, l_of0, lv_args, Nat.reduceBEq, Nat.reduceAdd, Nat.reduceLeDiff, Nat.reduceLT, Bool.not_true, Bool.not_false, Bool.and_true, Bool.true_and, Bool.and_false, Bool.false_and, Nat.reduceEqDiff, reduceIte, List.contains_cons, List.contains_nil, Bool.or_false, Bool.or_true, Bool.false_or, Bool.true_or, Fin.isValue, Fin.val_zero, Fin.val_one, Fin.val_two, Fin.reduceFinMk, Option.toList_some, Option.toList_none, List.nil_append, List.cons_append, zwt_nil, zwt_i, zwt_l, zwt_r, zthr_nil, List.isEmpty_nil, zcE, ↓ar_k, lgc0, true_and, and_true, true_implies, implies_true, false_implies, forall_const, i_len, ob_0, ob_1, ↓bI_01, bI_0, not_true_eq_false, not_false_eq_true, Bool.not_eq_false, Bool.not_eq_true, ia_add, ia_sub, ia_mul, ia_neg, ↓ldI, ↓ldL, zaI_c, zaL_c, ↓zlen_I, ↓zlen_L, ↓stI, ↓stL, gD_sI, gN_sI, gI_sI, gJ_sI, gR_sI, gA_sI, gB_sI, gT_sI, gD_sJ, gN_sJ, gI_sJ, gJ_sJ, gR_sJ, gA_sJ, gB_sJ, gT_sJ, gD_sR, gN_sR, gI_sR, gJ_sR, gR_sR, gA_sR, gB_sR, gT_sR, gD_sA, gN_sA, gI_sA, gJ_sA, gR_sA, gA_sA, gB_sA, gT_sA, gD_sB, gN_sB, gI_sB, gJ_sB, gR_sB, gA_sB, gB_sB, gT_sB, zx_il0, zx_il1, zx_il2, zx_il3, zx_ll0, zx_ll1, zx_ll2, zx_ll3, zx_al0, zx_al1, zx_al2, zx_al3, e_has, e_bA, e_mn, e_mx, e_pcI, e_pcL, e_low, zml_61, zg61_0, zb61_0, zg61_10, zb61_10, zg61_40, zb61_40, zg61_46, zb61_46, zmc_45, zms_45, zow_45, zhd_45, zmc_61, zms_61, zow_61, zhd_61, zmc_46, zms_46, zow_46, zhd_46, ↓gf_5_1, ↓gf_5_2, ↓gf_8_14, ↓gv_5, show ztg 33 7 = 40 from rfl, show ztg 37 9 = 46 from rfl, show ztg 5 5 = 10 from rfl, oI_some, LRoutes_d hr, LRoutes_r0 hr, LRoutes_k0 hr, LRoutes_n0 hr, LRoutes_r1 hr, LRoutes_k1 hr, LRoutes_n1 hr]
      try simp (disch := omega) only [ii_lt, ii_le, ii_eq, ii_eq0, ii_lt0, ii_0lt, ii_le0, ii_0le, i_inT, i_natN, i_nat, ia_div, ia_rem, hs_ofI, i_1shl, i_or, i_bit, true_and, and_true, not_true_eq_false, not_false_eq_true, true_implies, false_implies, implies_true, Int.reduceLT, Int.reduceLE, Int.reduceEq, Int.reduceNeg, Int.toNat_natCast, Int.reduceToNat, Nat.reduceLeDiff, Nat.reduceAdd, tn_2, tn_2p, tn_48, tn_48r, tn_3, tn_3p, tn_3q, tn_p1, tn_d2, tn_12]
      refine ⟨fun _ => ?_, fun z => by omega⟩
      try simp (disch := omega) only [ii_lt, ii_le, ii_eq, ii_eq0, ii_lt0, ii_0lt, ii_le0, ii_0le, i_inT, i_natN, i_nat, ia_div, ia_rem, hs_ofI, i_1shl, i_or, i_bit, true_and, and_true, not_true_eq_false, not_false_eq_true, true_implies, false_implies, implies_true, Int.reduceLT, Int.reduceLE, Int.reduceEq, Int.reduceNeg, Int.toNat_natCast, Int.reduceToNat, Nat.reduceLeDiff, Nat.reduceAdd, tn_2, tn_2p, tn_48, tn_48r, tn_3, tn_3p, tn_3q, tn_p1, tn_d2, tn_12]
      rw [hv a (by omega), a4]
      exact hQ
  · unfold rl at hQ
    rw [if_pos (by omega)] at hQ
    exact hQ
theorem u_trace {σ : zS} {t q c f : Nat} {T : Tw} {R : Nat → Nat → Bool} {Q : zQ} (h : CT σ t T) (hw : wf T) (hS : CS σ t T) (hr : LRoutes σ) (hd : gD σ q = 2) (hn : gN σ q = 48) (hR : NX (gB σ q) T R) (hc : gI σ 56 2 = Int32.ofInt c) (hcn : c < nC T) (hv : ∀ a, a < 48 → gA σ 58 a = Int32.ofInt (fr 268435456 (sd T R c a))) (hb : ∀ a d, sd T R c a = some d → d ≤ 4851) (hf : f < nC T) (hQ : ∀ g : Nat → Int32, (∀ k a, pk T R c f k = some a → g k = Int32.ofInt a) → Q (.inl (some (.int (Int32.ofInt (pn T R c f))))) (hOf (sA σ 57 g))) : zW zP 47 [.ref 56, .ref t, .ref q, .int (Int32.ofInt f)] (hOf σ) Q := by
  have ht := CT_t h
  have h24 := hw.2.1
  have h16 := hw.1
  have hv2 : ∀ (g : Nat → Int32) a, a < 48 → gA (sA σ 57 g) 58 a = Int32.ofInt (fr 268435456 (sd T R c a)) ∧ fr 268435456 (sd T R c a) ≤ 268435456 := fun g a ha => ⟨hv a ha, fr_le (hb a)⟩
  have n4 : (t + 4 = 57) = False := eq_false (by omega)
  have n5 : (t + 5 = 57) = False := eq_false (by omega)
  rw [zWE]
  simp only [zx_iconst, zx_bipush, zx_sipush, zx_lconst, zx_ldc, zx_ldcS, zx_ldc_w, zx_ldc2_w, zx_iload, zx_lload, zx_aload, zx_istore_n, zx_istore, zx_lstore_n, zx_lstore, zx_astore_n, zx_astore, zx_iinc, zx_iadd, zx_isub, zx_imul, zx_iand, zx_ior, zx_ixor, zx_ishl, zx_ishr, zx_iushr, zx_idiv, zx_irem, zx_ineg, zx_ladd, zx_lsub, zx_land, zx_lor, zx_lxor, zx_lneg, zx_lshl, zx_lushr, zx_i2l, zx_l2i, zx_lcmp, zx_dup, zx_dup2, zx_pop, zx_goto, zx_if_eq, zx_if_ne, zx_if_lt, zx_if_ge, zx_if_gt, zx_if_le, zx_icmp_eq, zx_icmp_ne, zx_icmp_lt, zx_icmp_ge, zx_icmp_gt, zx_icmp_le, zx_getfield, zx_putfield, zx_iaload, zx_laload, zx_aaload, zx_iastore, zx_lastore, zx_arraylength, zx_ireturn, zx_lreturn, zx_areturn, zx_return, zx_athrow, zx_static0, zx_static1, zx_virt1, zx_static2, zx_virt2, zx_static3, zx_virt3, zx_static4, zx_virt4, zx_static5, zx_virt5, zx_static6, zx_virt6, zx_static7, zx_virt7, zx_cpI, zx_cpL, ↓cpI, ↓cpL, zx_slen, zx_schr, zx_tsw, zx_spec3, new_X, zx_new1, zrun_nil, zrun_cons, ↓zgi_h, ↓zgi_n, ↓zgl_h, ↓zgl_n, ↓zgr_h, ↓zgr_n, zset1, zset2, zins_nil, zins_c, f3, cat_i, cat_l, cat_r, List.filter_cons, List.filter_nil, Bool.false_eq_true, l_of0, lv_args, Nat.reduceBEq, Nat.reduceAdd, Nat.reduceLeDiff, Nat.reduceLT, Bool.not_true, Bool.not_false, Bool.and_true, Bool.true_and, Bool.and_false, Bool.false_and, Nat.reduceEqDiff, reduceIte, List.contains_cons, List.contains_nil, Bool.or_false, Bool.or_true, Bool.false_or, Bool.true_or, Fin.isValue, Fin.val_zero, Fin.val_one, Fin.val_two, Fin.reduceFinMk, Option.toList_some, Option.toList_none, List.nil_append, List.cons_append, zwt_nil, zwt_i, zwt_l, zwt_r, zthr_nil, List.isEmpty_nil, zcE, ↓ar_k, lgc0, true_and, and_true, true_implies, implies_true, false_implies, forall_const, i_len, ob_0, ob_1, ↓bI_01, bI_0, not_true_eq_false, not_false_eq_true, Bool.not_eq_false, Bool.not_eq_true, ia_add, ia_sub, ia_mul, ia_neg, ↓ldI, ↓ldL, zaI_c, zaL_c, ↓zlen_I, ↓zlen_L, ↓stI, ↓stL, gD_sI, gN_sI, gI_sI, gJ_sI, gR_sI, gA_sI, gB_sI, gT_sI, gD_sJ, gN_sJ, gI_sJ, gJ_sJ, gR_sJ, gA_sJ, gB_sJ, gT_sJ, gD_sR, gN_sR, gI_sR, gJ_sR, gR_sR, gA_sR, gB_sR, gT_sR, gD_sA, gN_sA, gI_sA, gJ_sA, gR_sA, gA_sA, gB_sA, gT_sA, gD_sB, gN_sB, gI_sB, gJ_sB, gR_sB, gA_sB, gB_sB, gT_sB, zx_il0, zx_il1, zx_il2, zx_il3, zx_ll0, zx_ll1, zx_ll2, zx_ll3, zx_al0, zx_al1, zx_al2, zx_al3, e_has, e_bA, e_mn, e_mx, e_pcI, e_pcL, e_low, zml_47, zg47_0, zb47_0, zg47_10, zb47_10, zb47_32, zg47_57, zb47_57, zg47_86, zb47_86, zg47_110, zb47_110, zmc_45, zms_45, zow_45, zhd_45, zmc_46, zms_46, zow_46, zhd_46, zmc_47, zms_47, zow_47, zhd_47, ↓gf_5_0, ↓gf_5_2, ↓gf_8_10, ↓gf_8_14, ↓gf_8_9, ↓gv_5, show (Int8.ofInt 48).toInt32 = Int32.ofInt 48 from rfl, show ztg 107 (-75) = 32 from rfl, show ztg 36 74 = 110 from rfl, show ztg 5 5 = 10 from rfl, show ztg 52 5 = 57 from rfl, show ztg 80 6 = 86 from rfl, LTown_g (CT_L h), LTown_d (CT_L h), LTown_r6 (CT_L h), LTown_k6 (CT_L h), LTown_n6 (CT_L h), LTown_r7 (CT_L h), LTown_k7 (CT_L h), LTown_n7 (CT_L h), LTown_r8 (CT_L h), LTown_k8 (CT_L h), LTown_n8 (CT_L h), LTown_r9 (CT_L h), LTown_k9 (CT_L h), LTown_n9 (CT_L h), LTown_r10 (CT_L h), LTown_k10 (CT_L h), LTown_n10 (CT_L h), LTown_r11 (CT_L h), LTown_k11 (CT_L h), LTown_n11 (CT_L h), LTown_r12 (CT_L h), LTown_k12 (CT_L h), LTown_n12 (CT_L h), LTown_r13 (CT_L h), LTown_k13 (CT_L h), LTown_n13 (CT_L h), LTown_r14 (CT_L h), LTown_k14 (CT_L h), LTown_n14 (CT_L h), LTown_r15 (CT_L h), LTown_k15 (CT_L h), LTown_n15 (CT_L h), LTown_r16 (CT_L h), LTown_k16 (CT_L h), LTown_n16 (CT_L h), LTown_r17 (CT_L h), LTown_k17 (CT_L h), LTown_n17 (CT_L h), LTown_r18 (CT_L h), LTown_k18 (CT_L h), LTown_n18 (CT_L h), LRoutes_d hr, LRoutes_r0 hr, LRoutes_k0 hr, LRoutes_n0 hr, LRoutes_r1 hr, LRoutes_k1 hr, LRoutes_n1 hr, hc]
  try simp (disch := omega) only [ii_lt, ii_le, ii_eq, ii_eq0, ii_lt0, ii_0lt, ii_le0, ii_0le, i_inT, i_natN, i_nat, ia_div, ia_rem, hs_ofI, i_1shl, i_or, i_bit, true_and, and_true, not_true_eq_false, not_false_eq_true, true_implies, false_implies, implies_true, Int.reduceLT, Int.reduceLE, Int.reduceEq, Int.reduceNeg, Int.toNat_natCast, Int.reduceToNat, Nat.reduceLeDiff, Nat.reduceAdd, tn_2, tn_2p, tn_48, tn_48r, tn_3, tn_3p, tn_3q, tn_p1, tn_d2, tn_12]
  refine ⟨fun c1 => ?_, fun c1 => ?_⟩
  · refine u_least hr (v := fun a => fr 268435456 (sd T R c a)) (fun a ha => hv2 (gA σ 57) a ha) ?_
    intro x x1 x2 x3
    simp only [zx_iconst, zx_bipush, zx_sipush, zx_lconst, zx_ldc, zx_ldcS, zx_ldc_w, zx_ldc2_w, zx_iload, zx_lload, zx_aload, zx_istore_n, zx_istore, zx_lstore_n, zx_lstore, zx_astore_n, zx_astore, zx_iinc, zx_iadd, zx_isub, zx_imul, zx_iand, zx_ior, zx_ixor, zx_ishl, zx_ishr, zx_iushr, zx_idiv, zx_irem, zx_ineg, zx_ladd, zx_lsub, zx_land, zx_lor, zx_lxor, zx_lneg, zx_lshl, zx_lushr, zx_i2l, zx_l2i, zx_lcmp, zx_dup, zx_dup2, zx_pop, zx_goto, zx_if_eq, zx_if_ne, zx_if_lt, zx_if_ge, zx_if_gt, zx_if_le, zx_icmp_eq, zx_icmp_ne, zx_icmp_lt, zx_icmp_ge, zx_icmp_gt, zx_icmp_le, zx_getfield, zx_putfield, zx_iaload, zx_laload, zx_aaload, zx_iastore, zx_lastore, zx_arraylength, zx_ireturn, zx_lreturn, zx_areturn, zx_return, zx_athrow, zx_static0, zx_static1, zx_virt1, zx_static2, zx_virt2, zx_static3, zx_virt3, zx_static4, zx_virt4, zx_static5, zx_virt5, zx_static6, zx_virt6, zx_static7, zx_virt7, zx_cpI, zx_cpL, ↓cpI, ↓cpL, zx_slen, zx_schr, zx_tsw, zx_spec3, new_X, zx_new1, zrun_nil, zrun_cons, ↓zgi_h, ↓zgi_n, ↓zgl_h, ↓zgl_n, ↓zgr_h, ↓zgr_n, zset1, zset2, zins_nil, zins_c, f3, cat_i, cat_l, cat_r, List.filter_cons, List.filter_nil, Bool.false_eq_true, l_of0, lv_args, Nat.reduceBEq, Nat.reduceAdd, Nat.reduceLeDiff, Nat.reduceLT, Bool.not_true, Bool.not_false, Bool.and_true, Bool.true_and, Bool.and_false, Bool.false_and, Nat.reduceEqDiff, reduceIte, List.contains_cons, List.contains_nil, Bool.or_false, Bool.or_true, Bool.false_or, Bool.true_or, Fin.isValue, Fin.val_zero, Fin.val_one, Fin.val_two, Fin.reduceFinMk, Option.toList_some, Option.toList_none, List.nil_append, List.cons_append, zwt_nil, zwt_i, zwt_l, zwt_r, zthr_nil, List.isEmpty_nil, zcE, ↓ar_k, lgc0, true_and, and_true, true_implies, implies_true, false_implies, forall_const, i_len, ob_0, ob_1, ↓bI_01, bI_0, not_true_eq_false, not_false_eq_true, Bool.not_eq_false, Bool.not_eq_true, ia_add, ia_sub, ia_mul, ia_neg, ↓ldI, ↓ldL, zaI_c, zaL_c, ↓zlen_I, ↓zlen_L, ↓stI, ↓stL, gD_sI, gN_sI, gI_sI, gJ_sI, gR_sI, gA_sI, gB_sI, gT_sI, gD_sJ, gN_sJ, gI_sJ, gJ_sJ, gR_sJ, gA_sJ, gB_sJ, gT_sJ, gD_sR, gN_sR, gI_sR, gJ_sR, gR_sR, gA_sR, gB_sR, gT_sR, gD_sA, gN_sA, gI_sA, gJ_sA, gR_sA, gA_sA, gB_sA, gT_sA, gD_sB, gN_sB, gI_sB, gJ_sB, gR_sB, gA_sB, gB_sB, gT_sB, zx_il0, zx_il1, zx_il2, zx_il3, zx_ll0, zx_ll1, zx_ll2, zx_ll3, zx_al0, zx_al1, zx_al2, zx_al3, e_has, e_bA, e_mn, e_mx, e_pcI, e_pcL, e_low, zml_47, zg47_0, zb47_0, zg47_10, zb47_10, zb47_32, zg47_57, zb47_57, zg47_86, zb47_86, zg47_110, zb47_110, zmc_45, zms_45, zow_45, zhd_45, zmc_46, zms_46, zow_46, zhd_46, zmc_47, zms_47, zow_47, zhd_47, ↓gf_5_0, ↓gf_5_2, ↓gf_8_10, ↓gf_8_14, ↓gf_8_9, ↓gv_5, show (Int8.ofInt 48).toInt32 = Int32.ofInt 48 from rfl, show ztg 107 (-75) = 32 from rfl, show ztg 36 74 = 110 from rfl, show ztg 5 5 = 10 from rfl, show ztg 52 5 = 57 from rfl, show ztg 80 6 = 86 from rfl]
    have key : ∀ i : Nat, i ≤ 48 → ∀ (ways : Int64) (rest : Nat) (g : Nat → Int32), rest ≤ 268435456 → lw (fun b => b < 48 ∧ bt ways b = true ∧ fr 268435456 (sd T R c b) = rest ∧ rest < 268435456) = pk T R c f i → (∀ k a, k < i → pk T R c f k = some a → g k = Int32.ofInt a) → (∀ j, i = j + 1 → ∃ a, pk T R c f j = some a ∧ en T a ≠ c) → zfp zP (zcall zP 47) 47 Q 32 [(0, .ref 56), (1, .ref t), (2, .ref q), (4, .int (Int32.ofInt i)), (5, .long ways), (7, .int (Int32.ofInt rest)), (8, .int (Int32.ofInt i))] [] (hOf (sA σ 57 g)) 0 0 := by
      refine bk _ ?_
      intro i hi ih ways rest g k1 k2 k3 k4
      rw [zg47_32]
      simp only [zx_iconst, zx_bipush, zx_sipush, zx_lconst, zx_ldc, zx_ldcS, zx_ldc_w, zx_ldc2_w, zx_iload, zx_lload, zx_aload, zx_istore_n, zx_istore, zx_lstore_n, zx_lstore, zx_astore_n, zx_astore, zx_iinc, zx_iadd, zx_isub, zx_imul, zx_iand, zx_ior, zx_ixor, zx_ishl, zx_ishr, zx_iushr, zx_idiv, zx_irem, zx_ineg, zx_ladd, zx_lsub, zx_land, zx_lor, zx_lxor, zx_lneg, zx_lshl, zx_lushr, zx_i2l, zx_l2i, zx_lcmp, zx_dup, zx_dup2, zx_pop, zx_goto, zx_if_eq, zx_if_ne, zx_if_lt, zx_if_ge, zx_if_gt, zx_if_le, zx_icmp_eq, zx_icmp_ne, zx_icmp_lt, zx_icmp_ge, zx_icmp_gt, zx_icmp_le, zx_getfield, zx_putfield, zx_iaload, zx_laload, zx_aaload, zx_iastore, zx_lastore, zx_arraylength, zx_ireturn, zx_lreturn, zx_areturn, zx_return, zx_athrow, zx_static0, zx_static1, zx_virt1, zx_static2, zx_virt2, zx_static3, zx_virt3, zx_static4, zx_virt4, zx_static5, zx_virt5, zx_static6, zx_virt6, zx_static7, zx_virt7, zx_cpI, zx_cpL, ↓cpI, ↓cpL, zx_slen, zx_schr, zx_tsw, zx_spec3, new_X, zx_new1, zrun_nil, zrun_cons, ↓zgi_h, ↓zgi_n, ↓zgl_h, ↓zgl_n, ↓zgr_h, ↓zgr_n, zset1, zset2, zins_nil, zins_c, f3, cat_i, cat_l, cat_r, List.filter_cons, List.filter_nil, Bool.false_eq_true, l_of0, lv_args, Nat.reduceBEq, Nat.reduceAdd, Nat.reduceLeDiff, Nat.reduceLT, Bool.not_true, Bool.not_false, Bool.and_true, Bool.true_and, Bool.and_false, Bool.false_and, Nat.reduceEqDiff, reduceIte, List.contains_cons, List.contains_nil, Bool.or_false, Bool.or_true, Bool.false_or, Bool.true_or, Fin.isValue, Fin.val_zero, Fin.val_one, Fin.val_two, Fin.reduceFinMk, Option.toList_some, Option.toList_none, List.nil_append, List.cons_append, zwt_nil, zwt_i, zwt_l, zwt_r, zthr_nil, List.isEmpty_nil, zcE, ↓ar_k, lgc0, true_and, and_true, true_implies, implies_true, false_implies, forall_const, i_len, ob_0, ob_1, ↓bI_01, bI_0, not_true_eq_false, not_false_eq_true, Bool.not_eq_false, Bool.not_eq_true, ia_add, ia_sub, ia_mul, ia_neg, ↓ldI, ↓ldL, zaI_c, zaL_c, ↓zlen_I, ↓zlen_L, ↓stI, ↓stL, gD_sI, gN_sI, gI_sI, gJ_sI, gR_sI, gA_sI, gB_sI, gT_sI, gD_sJ, gN_sJ, gI_sJ, gJ_sJ, gR_sJ, gA_sJ, gB_sJ, gT_sJ, gD_sR, gN_sR, gI_sR, gJ_sR, gR_sR, gA_sR, gB_sR, gT_sR, gD_sA, gN_sA, gI_sA, gJ_sA, gR_sA, gA_sA, gB_sA, gT_sA, gD_sB, gN_sB, gI_sB, gJ_sB, gR_sB, gA_sB, gB_sB, gT_sB, zx_il0, zx_il1, zx_il2, zx_il3, zx_ll0, zx_ll1, zx_ll2, zx_ll3, zx_al0, zx_al1, zx_al2, zx_al3, e_has, e_bA, e_mn, e_mx, e_pcI, e_pcL, e_low, zml_47, zg47_0, zb47_0, zg47_10, zb47_10, zb47_32, zg47_57, zb47_57, zg47_86, zb47_86, zg47_110, zb47_110, zmc_45, zms_45, zow_45, zhd_45, zmc_46, zms_46, zow_46, zhd_46, zmc_47, zms_47, zow_47, zhd_47, ↓gf_5_0, ↓gf_5_2, ↓gf_8_10, ↓gf_8_14, ↓gf_8_9, ↓gv_5, show (Int8.ofInt 48).toInt32 = Int32.ofInt 48 from rfl, show ztg 107 (-75) = 32 from rfl, show ztg 36 74 = 110 from rfl, show ztg 5 5 = 10 from rfl, show ztg 52 5 = 57 from rfl, show ztg 80 6 = 86 from rfl, LTown_g (CT_L h), LTown_d (CT_L h), LTown_r6 (CT_L h), LTown_k6 (CT_L h), LTown_n6 (CT_L h), LTown_r7 (CT_L h), LTown_k7 (CT_L h), LTown_n7 (CT_L h), LTown_r8 (CT_L h), LTown_k8 (CT_L h), LTown_n8 (CT_L h), LTown_r9 (CT_L h), LTown_k9 (CT_L h), LTown_n9 (CT_L h), LTown_r10 (CT_L h), LTown_k10 (CT_L h), LTown_n10 (CT_L h), LTown_r11 (CT_L h), LTown_k11 (CT_L h), LTown_n11 (CT_L h), LTown_r12 (CT_L h), LTown_k12 (CT_L h), LTown_n12 (CT_L h), LTown_r13 (CT_L h), LTown_k13 (CT_L h), LTown_n13 (CT_L h), LTown_r14 (CT_L h), LTown_k14 (CT_L h), LTown_n14 (CT_L h), LTown_r15 (CT_L h), LTown_k15 (CT_L h), LTown_n15 (CT_L h), LTown_r16 (CT_L h), LTown_k16 (CT_L h), LTown_n16 (CT_L h), LTown_r17 (CT_L h), LTown_k17 (CT_L h), LTown_n17 (CT_L h), LTown_r18 (CT_L h), LTown_k18 (CT_L h), LTown_n18 (CT_L h), LRoutes_d hr, LRoutes_r0 hr, LRoutes_k0 hr, LRoutes_n0 hr, LRoutes_r1 hr, LRoutes_k1 hr, LRoutes_n1 hr, hc, hd, hn, gA_self, sA_sA, n4, n5]
      try simp (disch := omega) only [ii_lt, ii_le, ii_eq, ii_eq0, ii_lt0, ii_0lt, ii_le0, ii_0le, i_inT, i_natN, i_nat, ia_div, ia_rem, hs_ofI, i_1shl, i_or, i_bit, true_and, and_true, not_true_eq_false, not_false_eq_true, true_implies, false_implies, implies_true, Int.reduceLT, Int.reduceLE, Int.reduceEq, Int.reduceNeg, Int.toNat_natCast, Int.reduceToNat, Nat.reduceLeDiff, Nat.reduceAdd, tn_2, tn_2p, tn_48, tn_48r, tn_3, tn_3p, tn_3q, tn_p1, tn_d2, tn_12]
      refine ⟨fun c2 => ?_, fun c2 => ?_⟩
      · obtain ⟨a, ha, hen⟩ := k4 47 (by omega)
        obtain ⟨b, hb2⟩ := pk_ex hw hR.2 ha hen
        have := pk_48 hw hR.2 hb2
        omega
      · refine u_first hr k1 (v := fun a => fr 268435456 (sd T R c a)) (hv2 g) ?_
        rw [k2]
        cases e : pk T R c f i with
        | none =>
          simp only [zx_iconst, zx_bipush, zx_sipush, zx_lconst, zx_ldc, zx_ldcS, zx_ldc_w, zx_ldc2_w, zx_iload, zx_lload, zx_aload, zx_istore_n, zx_istore, zx_lstore_n, zx_lstore, zx_astore_n, zx_astore, zx_iinc, zx_iadd, zx_isub, zx_imul, zx_iand, zx_ior, zx_ixor, zx_ishl, zx_ishr, zx_iushr, zx_idiv, zx_irem, zx_ineg, zx_ladd, zx_lsub, zx_land, zx_lor, zx_lxor, zx_lneg, zx_lshl, zx_lushr, zx_i2l, zx_l2i, zx_lcmp, zx_dup, zx_dup2, zx_pop, zx_goto, zx_if_eq, zx_if_ne, zx_if_lt, zx_if_ge, zx_if_gt, zx_if_le, zx_icmp_eq, zx_icmp_ne, zx_icmp_lt, zx_icmp_ge, zx_icmp_gt, zx_icmp_le, zx_getfield, zx_putfield, zx_iaload, zx_laload, zx_aaload, zx_iastore, zx_lastore, zx_arraylength, zx_ireturn, zx_lreturn, zx_areturn, zx_return, zx_athrow, zx_static0, zx_static1, zx_virt1, zx_static2, zx_virt2, zx_static3, zx_virt3, zx_static4, zx_virt4, zx_static5, zx_virt5, zx_static6, zx_virt6, zx_static7, zx_virt7, zx_cpI, zx_cpL, ↓cpI, ↓cpL, zx_slen, zx_schr, zx_tsw, zx_spec3, new_X, zx_new1, zrun_nil, zrun_cons, ↓zgi_h, ↓zgi_n, ↓zgl_h, ↓zgl_n, ↓zgr_h, ↓zgr_n, zset1, zset2, zins_nil, zins_c, f3, cat_i, cat_l, cat_r, List.filter_cons, List.filter_nil, Bool.false_eq_true, l_of0, lv_args, Nat.reduceBEq, Nat.reduceAdd, Nat.reduceLeDiff, Nat.reduceLT, Bool.not_true, Bool.not_false, Bool.and_true, Bool.true_and, Bool.and_false, Bool.false_and, Nat.reduceEqDiff, reduceIte, List.contains_cons, List.contains_nil, Bool.or_false, Bool.or_true, Bool.false_or, Bool.true_or, Fin.isValue, Fin.val_zero, Fin.val_one, Fin.val_two, Fin.reduceFinMk, Option.toList_some, Option.toList_none, List.nil_append, List.cons_append, zwt_nil, zwt_i, zwt_l, zwt_r, zthr_nil, List.isEmpty_nil, zcE, ↓ar_k, lgc0, true_and, and_true, true_implies, implies_true, false_implies, forall_const, i_len, ob_0, ob_1, ↓bI_01, bI_0, not_true_eq_false, not_false_eq_true, Bool.not_eq_false, Bool.not_eq_true, ia_add, ia_sub, ia_mul, ia_neg, ↓ldI, ↓ldL, zaI_c, zaL_c, ↓zlen_I, ↓zlen_L, ↓stI, ↓stL, gD_sI, gN_sI, gI_sI, gJ_sI, gR_sI, gA_sI, gB_sI, gT_sI, gD_sJ, gN_sJ, gI_sJ, gJ_sJ, gR_sJ, gA_sJ, gB_sJ, gT_sJ, gD_sR, gN_sR, gI_sR, gJ_sR, gR_sR, gA_sR, gB_sR, gT_sR, gD_sA, gN_sA, gI_sA, gJ_sA, gR_sA, gA_sA, gB_sA, gT_sA, gD_sB, gN_sB, gI_sB, gJ_sB, gR_sB, gA_sB, gB_sB, gT_sB, zx_il0, zx_il1, zx_il2, zx_il3, zx_ll0, zx_ll1, zx_ll2, zx_ll3, zx_al0, zx_al1, zx_al2, zx_al3, e_has, e_bA, e_mn, e_mx, e_pcI, e_pcL, e_low, zml_47, zg47_0, zb47_0, zg47_10, zb47_10, zb47_32, zg47_57, zb47_57, zg47_86, zb47_86, zg47_110, zb47_110, zmc_45, zms_45, zow_45, zhd_45, zmc_46, zms_46, zow_46, zhd_46, zmc_47, zms_47, zow_47, zhd_47, ↓gf_5_0, ↓gf_5_2, ↓gf_8_10, ↓gf_8_14, ↓gf_8_9, ↓gv_5, show (Int8.ofInt 48).toInt32 = Int32.ofInt 48 from rfl, show ztg 107 (-75) = 32 from rfl, show ztg 36 74 = 110 from rfl, show ztg 5 5 = 10 from rfl, show ztg 52 5 = 57 from rfl, show ztg 80 6 = 86 from rfl, oI_none]
          first
          | skip
            refine ⟨fun z => absurd rfl z, fun _ => ?_⟩
          | skip
          have hi0 : i = 0 := by
            apply Classical.byContradiction
            intro hne
            obtain ⟨a, ha, hen⟩ := k4 (i - 1) (by omega)
            obtain ⟨b, hb2⟩ := pk_ex hw hR.2 ha hen
            rw [show i - 1 + 1 = i from by omega, e] at hb2
            cases hb2
          subst hi0
          have := hQ g (fun k a hk => by
            have := pk_none e k
            rw [Nat.zero_add, hk] at this
            cases this)
          rw [pn_of e (fun j hj => by omega)] at this
          exact this
        | some a =>
          obtain ⟨a1, d, a2, _⟩ := pk_cnt hw hR.2 i a e
          have al := isA_lt a1
          rw [e] at k2
          have a3 := (lw_some.1 k2).1
          have a4 := fr_eq (fun d hd => by have := hb a d hd; omega) a3.2.2.1 a3.2.2.2
          have hdr : d = rest := by
            rw [a2] at a4
            exact Option.some.inj a4
          subst hdr
          have al2 := wf_bg hw al
          have ag := sd_ge a2
          simp only [zx_iconst, zx_bipush, zx_sipush, zx_lconst, zx_ldc, zx_ldcS, zx_ldc_w, zx_ldc2_w, zx_iload, zx_lload, zx_aload, zx_istore_n, zx_istore, zx_lstore_n, zx_lstore, zx_astore_n, zx_astore, zx_iinc, zx_iadd, zx_isub, zx_imul, zx_iand, zx_ior, zx_ixor, zx_ishl, zx_ishr, zx_iushr, zx_idiv, zx_irem, zx_ineg, zx_ladd, zx_lsub, zx_land, zx_lor, zx_lxor, zx_lneg, zx_lshl, zx_lushr, zx_i2l, zx_l2i, zx_lcmp, zx_dup, zx_dup2, zx_pop, zx_goto, zx_if_eq, zx_if_ne, zx_if_lt, zx_if_ge, zx_if_gt, zx_if_le, zx_icmp_eq, zx_icmp_ne, zx_icmp_lt, zx_icmp_ge, zx_icmp_gt, zx_icmp_le, zx_getfield, zx_putfield, zx_iaload, zx_laload, zx_aaload, zx_iastore, zx_lastore, zx_arraylength, zx_ireturn, zx_lreturn, zx_areturn, zx_return, zx_athrow, zx_static0, zx_static1, zx_virt1, zx_static2, zx_virt2, zx_static3, zx_virt3, zx_static4, zx_virt4, zx_static5, zx_virt5, zx_static6, zx_virt6, zx_static7, zx_virt7, zx_cpI, zx_cpL, ↓cpI, ↓cpL, zx_slen, zx_schr, zx_tsw, zx_spec3, new_X, zx_new1, zrun_nil, zrun_cons, ↓zgi_h, ↓zgi_n, ↓zgl_h, ↓zgl_n, ↓zgr_h, ↓zgr_n, zset1, zset2, zins_nil, zins_c, f3, cat_i, cat_l, cat_r, List.filter_cons, List.filter_nil, Bool.false_eq_true, l_of0, lv_args, Nat.reduceBEq, Nat.reduceAdd, Nat.reduceLeDiff, Nat.reduceLT, Bool.not_true, Bool.not_false, Bool.and_true, Bool.true_and, Bool.and_false, Bool.false_and, Nat.reduceEqDiff, reduceIte, List.contains_cons, List.contains_nil, Bool.or_false, Bool.or_true, Bool.false_or, Bool.true_or, Fin.isValue, Fin.val_zero, Fin.val_one, Fin.val_two, Fin.reduceFinMk, Option.toList_some, Option.toList_none, List.nil_append, List.cons_append, zwt_nil, zwt_i, zwt_l, zwt_r, zthr_nil, List.isEmpty_nil, zcE, ↓ar_k, lgc0, true_and, and_true, true_implies, implies_true, false_implies, forall_const, i_len, ob_0, ob_1, ↓bI_01, bI_0, not_true_eq_false, not_false_eq_true, Bool.not_eq_false, Bool.not_eq_true, ia_add, ia_sub, ia_mul, ia_neg, ↓ldI, ↓ldL, zaI_c, zaL_c, ↓zlen_I, ↓zlen_L, ↓stI, ↓stL, gD_sI, gN_sI, gI_sI, gJ_sI, gR_sI, gA_sI, gB_sI, gT_sI, gD_sJ, gN_sJ, gI_sJ, gJ_sJ, gR_sJ, gA_sJ, gB_sJ, gT_sJ, gD_sR, gN_sR, gI_sR, gJ_sR, gR_sR, gA_sR, gB_sR, gT_sR, gD_sA, gN_sA, gI_sA, gJ_sA, gR_sA, gA_sA, gB_sA, gT_sA, gD_sB, gN_sB, gI_sB, gJ_sB, gR_sB, gA_sB, gB_sB, gT_sB, zx_il0, zx_il1, zx_il2, zx_il3, zx_ll0, zx_ll1, zx_ll2, zx_ll3, zx_al0, zx_al1, zx_al2, zx_al3, e_has, e_bA, e_mn, e_mx, e_pcI, e_pcL, e_low, zml_47, zg47_0, zb47_0, zg47_10, zb47_10, zb47_32, zg47_57, zb47_57, zg47_86, zb47_86, zg47_110, zb47_110, zmc_45, zms_45, zow_45, zhd_45, zmc_46, zms_46, zow_46, zhd_46, zmc_47, zms_47, zow_47, zhd_47, ↓gf_5_0, ↓gf_5_2, ↓gf_8_10, ↓gf_8_14, ↓gf_8_9, ↓gv_5, show (Int8.ofInt 48).toInt32 = Int32.ofInt 48 from rfl, show ztg 107 (-75) = 32 from rfl, show ztg 36 74 = 110 from rfl, show ztg 5 5 = 10 from rfl, show ztg 52 5 = 57 from rfl, show ztg 80 6 = 86 from rfl, oI_some, LTown_g (CT_L h), LTown_d (CT_L h), LTown_r6 (CT_L h), LTown_k6 (CT_L h), LTown_n6 (CT_L h), LTown_r7 (CT_L h), LTown_k7 (CT_L h), LTown_n7 (CT_L h), LTown_r8 (CT_L h), LTown_k8 (CT_L h), LTown_n8 (CT_L h), LTown_r9 (CT_L h), LTown_k9 (CT_L h), LTown_n9 (CT_L h), LTown_r10 (CT_L h), LTown_k10 (CT_L h), LTown_n10 (CT_L h), LTown_r11 (CT_L h), LTown_k11 (CT_L h), LTown_n11 (CT_L h), LTown_r12 (CT_L h), LTown_k12 (CT_L h), LTown_n12 (CT_L h), LTown_r13 (CT_L h), LTown_k13 (CT_L h), LTown_n13 (CT_L h), LTown_r14 (CT_L h), LTown_k14 (CT_L h), LTown_n14 (CT_L h), LTown_r15 (CT_L h), LTown_k15 (CT_L h), LTown_n15 (CT_L h), LTown_r16 (CT_L h), LTown_k16 (CT_L h), LTown_n16 (CT_L h), LTown_r17 (CT_L h), LTown_k17 (CT_L h), LTown_n17 (CT_L h), LTown_r18 (CT_L h), LTown_k18 (CT_L h), LTown_n18 (CT_L h), LRoutes_d hr, LRoutes_r0 hr, LRoutes_k0 hr, LRoutes_n0 hr, LRoutes_r1 hr, LRoutes_k1 hr, LRoutes_n1 hr, hc, hd, hn, gA_self, sA_sA, n4, n5]
          try simp (disch := omega) only [ii_lt, ii_le, ii_eq, ii_eq0, ii_lt0, ii_0lt, ii_le0, ii_0le, i_inT, i_natN, i_nat, ia_div, ia_rem, hs_ofI, i_1shl, i_or, i_bit, true_and, and_true, not_true_eq_false, not_false_eq_true, true_implies, false_implies, implies_true, Int.reduceLT, Int.reduceLE, Int.reduceEq, Int.reduceNeg, Int.toNat_natCast, Int.reduceToNat, Nat.reduceLeDiff, Nat.reduceAdd, tn_2, tn_2p, tn_48, tn_48r, tn_3, tn_3p, tn_3q, tn_p1, tn_d2, tn_12]
          refine ⟨fun _ => ?_, fun z => by omega⟩
          try simp (disch := omega) only [ii_lt, ii_le, ii_eq, ii_eq0, ii_lt0, ii_0lt, ii_le0, ii_0le, i_inT, i_natN, i_nat, ia_div, ia_rem, hs_ofI, i_1shl, i_or, i_bit, true_and, and_true, not_true_eq_false, not_false_eq_true, true_implies, false_implies, implies_true, Int.reduceLT, Int.reduceLE, Int.reduceEq, Int.reduceNeg, Int.toNat_natCast, Int.reduceToNat, Nat.reduceLeDiff, Nat.reduceAdd, tn_2, tn_2p, tn_48, tn_48r, tn_3, tn_3p, tn_3q, tn_p1, tn_d2, tn_12, CT_e h a al, CT_l h a al]
          refine ⟨fun c3 => ?_, fun c3 => ?_⟩
          · try simp (disch := omega) only [ii_lt, ii_le, ii_eq, ii_eq0, ii_lt0, ii_0lt, ii_le0, ii_0le, i_inT, i_natN, i_nat, ia_div, ia_rem, hs_ofI, i_1shl, i_or, i_bit, true_and, and_true, not_true_eq_false, not_false_eq_true, true_implies, false_implies, implies_true, Int.reduceLT, Int.reduceLE, Int.reduceEq, Int.reduceNeg, Int.toNat_natCast, Int.reduceToNat, Nat.reduceLeDiff, Nat.reduceAdd, tn_2, tn_2p, tn_48, tn_48r, tn_3, tn_3p, tn_3q, tn_p1, tn_d2, tn_12]
            obtain ⟨b, e2, b1, b2, b3⟩ := sd_dn a2 (by omega)
            rw [ia_sub, show (d : Int) - (ln T a : Int) = (e2 : Int) from by omega]
            have hb2 := hb b e2 b2
            refine zjf rfl (ih (by omega) (gB σ q a) e2 _ (by omega) ?_ ?_ ?_)
            · show _ = (pk T R c f i).bind (na T R c)
              rw [e]
              show _ = na T R c a
              refine lw_congr (fun b => ⟨fun ⟨z1, z2, z3, z4⟩ => ?_, fun ⟨z1, z2, d2, e3, z3, z4, z5⟩ => ?_⟩)
              · rw [hR.1 a al] at z2
                exact ⟨by omega, z2, d, e2, a2, fr_eq (fun d hd => by have := hb b d hd; omega) z3 z4, b3⟩
              · rw [a2] at z3
                cases z3
                have := isA_lt (hR.2 a b z2).2
                refine ⟨by omega, by rw [hR.1 a al]; exact z2, ?_, by omega⟩
                rw [z4]
                show e3 = e2
                omega
            · intro k a5 hk hp
              show (if k = i then _ else _) = _
              by_cases e5 : k = i
              · rw [if_pos e5]
                rw [e5, e] at hp
                cases hp
                rfl
              · rw [if_neg e5]
                exact k3 k a5 (by omega) hp
            · intro j hj
              have : j = i := by omega
              subst this
              exact ⟨a, e, by omega⟩
          · have hst := pk_stop e (by omega)
            have := hQ (upd g i (Int32.ofInt a)) (fun k a5 hp => ?_)
            · rw [pn_of hst (fun j hj => ⟨a, by rw [show j = i from by omega]; exact e⟩)] at this
              exact this
            · show (if k = i then _ else _) = _
              by_cases e5 : k = i
              · rw [if_pos e5]
                rw [e5, e] at hp
                cases hp
                rfl
              · rw [if_neg e5]
                refine k3 k a5 ?_ hp
                apply Classical.byContradiction
                intro hge
                have := pk_none hst (k - (i + 1))
                rw [show i + 1 + (k - (i + 1)) = k from by omega, hp] at this
                cases this
    have := key 0 (by omega) (gB σ (t + 9) f) x (gA σ 57) x1 (lw_fa hw hb (by omega) (hS.1 f (by omega)) x2 x3) (fun k a hk => by omega) (fun j hj => by omega)
    rw [sA_same rfl] at this
    exact zjf rfl this
  · have e : fa T R c f = none := lw_none.2 (fun n z => z.2.2.1 (by omega))
    have := hQ (gA σ 57) (fun k a hk => by
      have := pk_none (k := 0) e k
      rw [Nat.zero_add, hk] at this
      cases this)
    rw [pn_of (k := 0) e (fun j hj => by omega), sA_same rfl] at this
    exact this
