/-! SHORTEST RIDES -/
/-- a ride to the corner c that begins with the arc a: n arcs more, d long -/
def wk (T : Tw) (R : Nat → Nat → Bool) (c : Nat) : Nat → Nat → Nat → Prop
  | 0, a, d => isA T a = true ∧ en T a = c ∧ d = ln T a
  | n + 1, a, d => ∃ b e, R a b = true ∧ wk T R c n b e ∧ d = ln T a + e
def isD (T : Tw) (R : Nat → Nat → Bool) (c a d : Nat) : Prop := (∃ n, wk T R c n a d) ∧ ∀ n e, wk T R c n a e → d ≤ e
theorem isD_ex {T : Tw} {R : Nat → Nat → Bool} {c a : Nat} : ∀ d n, wk T R c n a d → ∃ e, isD T R c a e := by
  intro d
  induction d using Nat.strongRecOn with
  | ind d ih =>
    intro n hn
    by_cases h : ∃ e m, e < d ∧ wk T R c m a e
    · obtain ⟨e, m, h1, h2⟩ := h
      exact ih e h1 m h2
    · refine ⟨d, ⟨n, hn⟩, fun m e hm => ?_⟩
      apply Classical.byContradiction
      intro hlt
      exact h ⟨e, m, by omega, hm⟩
theorem isD_uniq {T : Tw} {R : Nat → Nat → Bool} {c a d e : Nat} (h1 : isD T R c a d) (h2 : isD T R c a e) : d = e := by
  obtain ⟨n, hn⟩ := h1.1
  obtain ⟨m, hm⟩ := h2.1
  have := h1.2 m e hm
  have := h2.2 n d hn
  omega
noncomputable def sd (T : Tw) (R : Nat → Nat → Bool) (c a : Nat) : Option Nat := @dite _ (∃ d, isD T R c a d) (Classical.propDecidable _) (fun h => some (Classical.choose h)) (fun _ => none)
theorem sd_some {T : Tw} {R : Nat → Nat → Bool} {c a d : Nat} : sd T R c a = some d ↔ isD T R c a d := by
  unfold sd
  by_cases h : ∃ d, isD T R c a d
  · rw [dif_pos h]
    constructor
    · intro e
      cases e
      exact Classical.choose_spec h
    · intro e
      rw [isD_uniq (Classical.choose_spec h) e]
  · rw [dif_neg h]
    constructor
    · intro e
      cases e
    · intro e
      exact absurd ⟨d, e⟩ h
theorem sd_none {T : Tw} {R : Nat → Nat → Bool} {c a : Nat} : sd T R c a = none ↔ ∀ n d, ¬ wk T R c n a d := by
  constructor
  · intro h n d hn
    obtain ⟨e, he⟩ := isD_ex d n hn
    rw [sd_some.2 he] at h
    cases h
  · intro h
    cases e : sd T R c a with
    | none => rfl
    | some d =>
      obtain ⟨n, hn⟩ := (sd_some.1 e).1
      exact absurd hn (h n d)
/-- lengths, far for none -/
def fr (far : Nat) (o : Option Nat) : Nat := match o with
  | some d => d
  | none => far
theorem u_nearest {σ : zS} {t : Nat} {T : Tw} {op : Int64} {v : Nat → Nat} {Q : zQ} (h : CT σ t T) (hw : wf T) (hr : LRoutes σ) (hv : ∀ a, a < 48 → gA σ 58 a = Int32.ofInt (v a) ∧ v a ≤ 268435456) (hQ1 : (∀ a, a < 2 * nS T → bt op a = true → 268435456 ≤ v a) → Q (.inl (some (.int (Int32.ofInt (-1))))) (hOf σ)) (hQ2 : ∀ m : Nat, m < 2 * nS T → bt op m = true → v m < 268435456 → (∀ a, a < 2 * nS T → bt op a = true → v m ≤ v a) → Q (.inl (some (.int (Int32.ofInt m)))) (hOf σ)) : zW zP 40 [.ref 56, .ref t, .long op] (hOf σ) Q := by
  have ht := CT_t h
  have h24 := hw.2.1
  rw [zWE]
  simp only [zx_iconst, zx_bipush, zx_sipush, zx_lconst, zx_ldc, zx_ldcS, zx_ldc_w, zx_ldc2_w, zx_iload_n, zx_iload, zx_lload_n, zx_lload, zx_aload_n, zx_aload, zx_istore_n, zx_istore, zx_lstore_n, zx_lstore, zx_astore_n, zx_astore, zx_iinc, zx_iadd, zx_isub, zx_imul, zx_iand, zx_ior, zx_ixor, zx_ishl, zx_ishr, zx_iushr, zx_idiv, zx_irem, zx_ineg, zx_ladd, zx_lsub, zx_land, zx_lor, zx_lxor, zx_lneg, zx_lshl, zx_lushr, zx_i2l, zx_l2i, zx_lcmp, zx_dup, zx_dup2, zx_pop, zx_goto, zx_if_eq, zx_if_ne, zx_if_lt, zx_if_ge, zx_if_gt, zx_if_le, zx_icmp_eq, zx_icmp_ne, zx_icmp_lt, zx_icmp_ge, zx_icmp_gt, zx_icmp_le, zx_getfield, zx_putfield, zx_iaload, zx_laload, zx_aaload, zx_iastore, zx_lastore, zx_arraylength, zx_ireturn, zx_lreturn, zx_areturn, zx_return, zx_athrow, zx_static0, zx_static1, zx_virt1, zx_static2, zx_virt2, zx_static3, zx_virt3, zx_static4, zx_virt4, zx_static5, zx_virt5, zx_static6, zx_virt6, zx_static7, zx_virt7, zx_cpI, zx_cpL, ↓cpI, ↓cpL, zx_slen, zx_schr, zx_tsw, zx_spec3, new_X, zx_new1, zrun_nil, zrun_cons, ↓zgi_h, ↓zgi_n, ↓zgl_h, ↓zgl_n, ↓zgr_h, ↓zgr_n, zset1, zset2, zins_nil, zins_c, f3, cat_i, cat_l, cat_r, List.filter_cons, List.filter_nil, Bool.false_eq_true, l_of0, lv_args, Nat.reduceBEq, Nat.reduceAdd, Nat.reduceLeDiff, Nat.reduceLT, Bool.not_true, Bool.not_false, Bool.and_true, Bool.true_and, Bool.and_false, Bool.false_and, Nat.reduceEqDiff, reduceIte, List.contains_cons, List.contains_nil, Bool.or_false, Bool.or_true, Bool.false_or, Bool.true_or, Fin.isValue, Fin.val_zero, Fin.val_one, Fin.val_two, Fin.reduceFinMk, Option.toList_some, Option.toList_none, List.nil_append, List.cons_append, zwt_nil, zwt_i, zwt_l, zwt_r, zthr_nil, List.isEmpty_nil, zcE, ↓ar_k, lgc0, true_and, and_true, true_implies, implies_true, false_implies, forall_const, i_len, ob_0, ob_1, ↓bI_01, bI_0, not_true_eq_false, not_false_eq_true, Bool.not_eq_false, Bool.not_eq_true, ia_add, ia_sub, ia_mul, ia_neg, ↓ldI, ↓ldL, zaI_c, zaL_c, ↓zlen_I, ↓zlen_L, ↓stI, ↓stL, gD_sI, gN_sI, gI_sI, gJ_sI, gR_sI, gA_sI, gB_sI, gT_sI, gD_sJ, gN_sJ, gI_sJ, gJ_sJ, gR_sJ, gA_sJ, gB_sJ, gT_sJ, gD_sR, gN_sR, gI_sR, gJ_sR, gR_sR, gA_sR, gB_sR, gT_sR, gD_sA, gN_sA, gI_sA, gJ_sA, gR_sA, gA_sA, gB_sA, gT_sA, gD_sB, gN_sB, gI_sB, gJ_sB, gR_sB, gA_sB, gB_sB, gT_sB, e_has, e_bA, e_mn, e_mx, e_pcI, e_pcL, e_low, zml_40, zg40_0, zb40_0, zb40_6, zg40_61, zb40_61, zg40_65, zb40_65, zg40_71, zb40_71, zmc_40, zms_40, zow_40, zhd_40, zmc_31, zms_31, zow_31, zhd_31, ↓gf_5_1, ↓gf_8_1, show ztg 14 57 = 71 from rfl, show ztg 23 42 = 65 from rfl, show ztg 35 30 = 65 from rfl, show ztg 41 20 = 61 from rfl, show ztg 58 7 = 65 from rfl, show ztg 68 (-62) = 6 from rfl, LTown_g (CT_L h), LTown_d (CT_L h), LTown_r6 (CT_L h), LTown_k6 (CT_L h), LTown_n6 (CT_L h), LTown_r7 (CT_L h), LTown_k7 (CT_L h), LTown_n7 (CT_L h), LTown_r8 (CT_L h), LTown_k8 (CT_L h), LTown_n8 (CT_L h), LTown_r9 (CT_L h), LTown_k9 (CT_L h), LTown_n9 (CT_L h), LTown_r10 (CT_L h), LTown_k10 (CT_L h), LTown_n10 (CT_L h), LTown_r11 (CT_L h), LTown_k11 (CT_L h), LTown_n11 (CT_L h), LTown_r12 (CT_L h), LTown_k12 (CT_L h), LTown_n12 (CT_L h), LTown_r13 (CT_L h), LTown_k13 (CT_L h), LTown_n13 (CT_L h), LTown_r14 (CT_L h), LTown_k14 (CT_L h), LTown_n14 (CT_L h), LTown_r15 (CT_L h), LTown_k15 (CT_L h), LTown_n15 (CT_L h), LTown_r16 (CT_L h), LTown_k16 (CT_L h), LTown_n16 (CT_L h), LTown_r17 (CT_L h), LTown_k17 (CT_L h), LTown_n17 (CT_L h), LTown_r18 (CT_L h), LTown_k18 (CT_L h), LTown_n18 (CT_L h), LRoutes_d hr, LRoutes_r0 hr, LRoutes_k0 hr, LRoutes_n0 hr, LRoutes_r1 hr, LRoutes_k1 hr, LRoutes_n1 hr]
  have key : ∀ i : Nat, i ≤ 2 * nS T → ∀ b : Int, ((b = -1 ∧ ∀ a, a < i → bt op a = true → 268435456 ≤ v a) ∨ (∃ m : Nat, b = m ∧ m < i ∧ bt op m = true ∧ v m < 268435456 ∧ ∀ a, a < i → bt op a = true → v m ≤ v a)) → zfp zP (zcall zP 40) 40 Q 6 [(0, .ref 56), (1, .ref t), (2, .long op), (4, .int (Int32.ofInt b)), (5, .int (Int32.ofInt i))] [] (hOf σ) 0 0 := by
    refine bk _ ?_
    intro i hi ih b hb
    rw [zg40_6]
    simp only [zx_iconst, zx_bipush, zx_sipush, zx_lconst, zx_ldc, zx_ldcS, zx_ldc_w, zx_ldc2_w, zx_iload_n, zx_iload, zx_lload_n, zx_lload, zx_aload_n, zx_aload, zx_istore_n, zx_istore, zx_lstore_n, zx_lstore, zx_astore_n, zx_astore, zx_iinc, zx_iadd, zx_isub, zx_imul, zx_iand, zx_ior, zx_ixor, zx_ishl, zx_ishr, zx_iushr, zx_idiv, zx_irem, zx_ineg, zx_ladd, zx_lsub, zx_land, zx_lor, zx_lxor, zx_lneg, zx_lshl, zx_lushr, zx_i2l, zx_l2i, zx_lcmp, zx_dup, zx_dup2, zx_pop, zx_goto, zx_if_eq, zx_if_ne, zx_if_lt, zx_if_ge, zx_if_gt, zx_if_le, zx_icmp_eq, zx_icmp_ne, zx_icmp_lt, zx_icmp_ge, zx_icmp_gt, zx_icmp_le, zx_getfield, zx_putfield, zx_iaload, zx_laload, zx_aaload, zx_iastore, zx_lastore, zx_arraylength, zx_ireturn, zx_lreturn, zx_areturn, zx_return, zx_athrow, zx_static0, zx_static1, zx_virt1, zx_static2, zx_virt2, zx_static3, zx_virt3, zx_static4, zx_virt4, zx_static5, zx_virt5, zx_static6, zx_virt6, zx_static7, zx_virt7, zx_cpI, zx_cpL, ↓cpI, ↓cpL, zx_slen, zx_schr, zx_tsw, zx_spec3, new_X, zx_new1, zrun_nil, zrun_cons, ↓zgi_h, ↓zgi_n, ↓zgl_h, ↓zgl_n, ↓zgr_h, ↓zgr_n, zset1, zset2, zins_nil, zins_c, f3, cat_i, cat_l, cat_r, List.filter_cons, List.filter_nil, Bool.false_eq_true, l_of0, lv_args, Nat.reduceBEq, Nat.reduceAdd, Nat.reduceLeDiff, Nat.reduceLT, Bool.not_true, Bool.not_false, Bool.and_true, Bool.true_and, Bool.and_false, Bool.false_and, Nat.reduceEqDiff, reduceIte, List.contains_cons, List.contains_nil, Bool.or_false, Bool.or_true, Bool.false_or, Bool.true_or, Fin.isValue, Fin.val_zero, Fin.val_one, Fin.val_two, Fin.reduceFinMk, Option.toList_some, Option.toList_none, List.nil_append, List.cons_append, zwt_nil, zwt_i, zwt_l, zwt_r, zthr_nil, List.isEmpty_nil, zcE, ↓ar_k, lgc0, true_and, and_true, true_implies, implies_true, false_implies, forall_const, i_len, ob_0, ob_1, ↓bI_01, bI_0, not_true_eq_false, not_false_eq_true, Bool.not_eq_false, Bool.not_eq_true, ia_add, ia_sub, ia_mul, ia_neg, ↓ldI, ↓ldL, zaI_c, zaL_c, ↓zlen_I, ↓zlen_L, ↓stI, ↓stL, gD_sI, gN_sI, gI_sI, gJ_sI, gR_sI, gA_sI, gB_sI, gT_sI, gD_sJ, gN_sJ, gI_sJ, gJ_sJ, gR_sJ, gA_sJ, gB_sJ, gT_sJ, gD_sR, gN_sR, gI_sR, gJ_sR, gR_sR, gA_sR, gB_sR, gT_sR, gD_sA, gN_sA, gI_sA, gJ_sA, gR_sA, gA_sA, gB_sA, gT_sA, gD_sB, gN_sB, gI_sB, gJ_sB, gR_sB, gA_sB, gB_sB, gT_sB, e_has, e_bA, e_mn, e_mx, e_pcI, e_pcL, e_low, zml_40, zg40_0, zb40_0, zb40_6, zg40_61, zb40_61, zg40_65, zb40_65, zg40_71, zb40_71, zmc_40, zms_40, zow_40, zhd_40, zmc_31, zms_31, zow_31, zhd_31, ↓gf_5_1, ↓gf_8_1, show ztg 14 57 = 71 from rfl, show ztg 23 42 = 65 from rfl, show ztg 35 30 = 65 from rfl, show ztg 41 20 = 61 from rfl, show ztg 58 7 = 65 from rfl, show ztg 68 (-62) = 6 from rfl, LTown_g (CT_L h), LTown_d (CT_L h), LTown_r6 (CT_L h), LTown_k6 (CT_L h), LTown_n6 (CT_L h), LTown_r7 (CT_L h), LTown_k7 (CT_L h), LTown_n7 (CT_L h), LTown_r8 (CT_L h), LTown_k8 (CT_L h), LTown_n8 (CT_L h), LTown_r9 (CT_L h), LTown_k9 (CT_L h), LTown_n9 (CT_L h), LTown_r10 (CT_L h), LTown_k10 (CT_L h), LTown_n10 (CT_L h), LTown_r11 (CT_L h), LTown_k11 (CT_L h), LTown_n11 (CT_L h), LTown_r12 (CT_L h), LTown_k12 (CT_L h), LTown_n12 (CT_L h), LTown_r13 (CT_L h), LTown_k13 (CT_L h), LTown_n13 (CT_L h), LTown_r14 (CT_L h), LTown_k14 (CT_L h), LTown_n14 (CT_L h), LTown_r15 (CT_L h), LTown_k15 (CT_L h), LTown_n15 (CT_L h), LTown_r16 (CT_L h), LTown_k16 (CT_L h), LTown_n16 (CT_L h), LTown_r17 (CT_L h), LTown_k17 (CT_L h), LTown_n17 (CT_L h), LTown_r18 (CT_L h), LTown_k18 (CT_L h), LTown_n18 (CT_L h), LRoutes_d hr, LRoutes_r0 hr, LRoutes_k0 hr, LRoutes_n0 hr, LRoutes_r1 hr, LRoutes_k1 hr, LRoutes_n1 hr, CT_1 h]
    try simp (disch := omega) only [ii_lt, ii_le, ii_eq, ii_eq0, ii_lt0, ii_0lt, ii_le0, ii_0le, i_inT, i_natN, i_nat, ia_div, ia_rem, hs_ofI, i_1shl, i_or, i_bit, true_and, and_true, not_true_eq_false, not_false_eq_true, true_implies, false_implies, implies_true, Int.reduceLT, Int.reduceLE, Int.reduceEq, Int.reduceNeg, Int.toNat_natCast, Int.reduceToNat, Nat.reduceLeDiff, Nat.reduceAdd, tn_2, tn_2p, tn_48, tn_48r, tn_3, tn_3p, tn_3q, tn_p1, tn_d2, tn_12]
    refine ⟨fun c => ?_, fun c => ⟨fun c2 => ?_, fun c2 => ?_⟩⟩
    · rcases hb with ⟨b1, b2⟩ | ⟨m, b1, b2, b3, b4, b5⟩
      · rw [b1]
        exact hQ1 (fun a ha => b2 a (by omega))
      · rw [b1]
        exact hQ2 m (by omega) b3 b4 (fun a ha => b5 a (by omega))
    · refine ih (by omega) b ?_
      rcases hb with ⟨b1, b2⟩ | ⟨m, b1, b2, b3, b4, b5⟩
      · refine .inl ⟨b1, fun a ha hop => ?_⟩
        by_cases e : a = i
        · rw [e, c2] at hop
          cases hop
        · exact b2 a (by omega) hop
      · refine .inr ⟨m, b1, by omega, b3, b4, fun a ha hop => ?_⟩
        by_cases e : a = i
        · rw [e, c2] at hop
          cases hop
        · exact b5 a (by omega) hop
    · have hvi := hv i (by omega)
      simp only [hvi.1]
      try simp (disch := omega) only [ii_lt, ii_le, ii_eq, ii_eq0, ii_lt0, ii_0lt, ii_le0, ii_0le, i_inT, i_natN, i_nat, ia_div, ia_rem, hs_ofI, i_1shl, i_or, i_bit, true_and, and_true, not_true_eq_false, not_false_eq_true, true_implies, false_implies, implies_true, Int.reduceLT, Int.reduceLE, Int.reduceEq, Int.reduceNeg, Int.toNat_natCast, Int.reduceToNat, Nat.reduceLeDiff, Nat.reduceAdd, tn_2, tn_2p, tn_48, tn_48r, tn_3, tn_3p, tn_3q, tn_p1, tn_d2, tn_12]
      refine ⟨fun c3 => ?_, fun c3 => ?_⟩
      · refine ih (by omega) b ?_
        rcases hb with ⟨b1, b2⟩ | ⟨m, b1, b2, b3, b4, b5⟩
        · refine .inl ⟨b1, fun a ha hop => ?_⟩
          by_cases e : a = i
          · rw [e]
            omega
          · exact b2 a (by omega) hop
        · refine .inr ⟨m, b1, by omega, b3, b4, fun a ha hop => ?_⟩
          by_cases e : a = i
          · rw [e]
            omega
          · exact b5 a (by omega) hop
      · have nw : ∀ a, a < i + 1 → bt op a = true → (∀ a, a < i → bt op a = true → v i ≤ v a) → v i ≤ v a := by
          intro a ha hop hh
          by_cases e : a = i
          · rw [e]
            exact Nat.le_refl _
          · exact hh a (by omega) hop
        rcases hb with ⟨b1, b2⟩ | ⟨m, b1, b2, b3, b4, b5⟩
        · subst b1
          refine ⟨fun _ => ?_, fun z => absurd rfl z⟩
          exact ih (by omega) i (.inr ⟨i, rfl, by omega, c2, by omega, fun a ha hop => nw a ha hop (fun a ha hop => by have := b2 a ha hop; omega)⟩)
        · subst b1
          have hvm := hv m (by omega)
          try simp (disch := omega) only [ii_lt, ii_le, ii_eq, ii_eq0, ii_lt0, ii_0lt, ii_le0, ii_0le, i_inT, i_natN, i_nat, ia_div, ia_rem, hs_ofI, i_1shl, i_or, i_bit, true_and, and_true, not_true_eq_false, not_false_eq_true, true_implies, false_implies, implies_true, Int.reduceLT, Int.reduceLE, Int.reduceEq, Int.reduceNeg, Int.toNat_natCast, Int.reduceToNat, Nat.reduceLeDiff, Nat.reduceAdd, tn_2, tn_2p, tn_48, tn_48r, tn_3, tn_3p, tn_3q, tn_p1, tn_d2, tn_12]
          rw [hvm.1]
          try simp (disch := omega) only [ii_lt, ii_le, ii_eq, ii_eq0, ii_lt0, ii_0lt, ii_le0, ii_0le, i_inT, i_natN, i_nat, ia_div, ia_rem, hs_ofI, i_1shl, i_or, i_bit, true_and, and_true, not_true_eq_false, not_false_eq_true, true_implies, false_implies, implies_true, Int.reduceLT, Int.reduceLE, Int.reduceEq, Int.reduceNeg, Int.toNat_natCast, Int.reduceToNat, Nat.reduceLeDiff, Nat.reduceAdd, tn_2, tn_2p, tn_48, tn_48r, tn_3, tn_3p, tn_3q, tn_p1, tn_d2, tn_12]
          refine ⟨fun z => by omega, fun _ => ⟨fun c4 => ?_, fun c4 => ?_⟩⟩
          · refine ih (by omega) m (.inr ⟨m, rfl, by omega, b3, b4, fun a ha hop => ?_⟩)
            by_cases e : a = i
            · rw [e]
              omega
            · exact b5 a (by omega) hop
          · exact ih (by omega) i (.inr ⟨i, rfl, by omega, c2, by omega, fun a ha hop => nw a ha hop (fun a ha hop => by have := b5 a ha hop; omega)⟩)
  exact key 0 (by omega) (-1) (.inl ⟨rfl, fun a ha => by omega⟩)
theorem bt_le64 {m : Int64} {p : Nat → Prop} (hp : ∀ j, bt m j = true → j < 48) (h : cp (bt m) 48 = 0) : m = 0 := by
  rw [bt_eq0]
  intro j
  cases e : bt m j with
  | false => rfl
  | true =>
    have := cp_pos 48 j (hp j e) e
    omega
theorem u_spread {σ : zS} {t q m : Nat} {T : Tw} {R : Nat → Nat → Bool} {op : Int64} {v : Nat → Nat} {Q : zQ} (h : CT σ t T) (hw : wf T) (hS : CS σ t T) (hr : LRoutes σ) (hd : gD σ q = 2) (hn : gN σ q = 48) (hR : NX (gB σ q) T R) (hE : ∀ a b, R a b = true → en T a = bg T b) (hv : ∀ a, a < 48 → gA σ 58 a = Int32.ofInt (v a) ∧ v a ≤ 268435456) (hm : isA T m = true) (hop : bt op m = false) (hQ : ∀ f : Nat → Int32, (∀ a, a < 48 → f a = Int32.ofInt ((if bt op a = true ∧ R a m = true then min (v a) (ln T a + v m) else v a : Nat) : Int)) → Q (.inl none) (hOf (sA σ 58 f))) : zW zP 43 [.ref 56, .ref t, .ref q, .int (Int32.ofInt m), .long op] (hOf σ) Q := by
  have ht := CT_t h
  have h24 := hw.2.1
  have h16 := hw.1
  have hml := isA_lt hm
  have hbm := wf_bg hw hml
  rw [zWE]
  simp only [zx_iconst, zx_bipush, zx_sipush, zx_lconst, zx_ldc, zx_ldcS, zx_ldc_w, zx_ldc2_w, zx_iload_n, zx_iload, zx_lload_n, zx_lload, zx_aload_n, zx_aload, zx_istore_n, zx_istore, zx_lstore_n, zx_lstore, zx_astore_n, zx_astore, zx_iinc, zx_iadd, zx_isub, zx_imul, zx_iand, zx_ior, zx_ixor, zx_ishl, zx_ishr, zx_iushr, zx_idiv, zx_irem, zx_ineg, zx_ladd, zx_lsub, zx_land, zx_lor, zx_lxor, zx_lneg, zx_lshl, zx_lushr, zx_i2l, zx_l2i, zx_lcmp, zx_dup, zx_dup2, zx_pop, zx_goto, zx_if_eq, zx_if_ne, zx_if_lt, zx_if_ge, zx_if_gt, zx_if_le, zx_icmp_eq, zx_icmp_ne, zx_icmp_lt, zx_icmp_ge, zx_icmp_gt, zx_icmp_le, zx_getfield, zx_putfield, zx_iaload, zx_laload, zx_aaload, zx_iastore, zx_lastore, zx_arraylength, zx_ireturn, zx_lreturn, zx_areturn, zx_return, zx_athrow, zx_static0, zx_static1, zx_virt1, zx_static2, zx_virt2, zx_static3, zx_virt3, zx_static4, zx_virt4, zx_static5, zx_virt5, zx_static6, zx_virt6, zx_static7, zx_virt7, zx_cpI, zx_cpL, ↓cpI, ↓cpL, zx_slen, zx_schr, zx_tsw, zx_spec3, new_X, zx_new1, zrun_nil, zrun_cons, ↓zgi_h, ↓zgi_n, ↓zgl_h, ↓zgl_n, ↓zgr_h, ↓zgr_n, zset1, zset2, zins_nil, zins_c, f3, cat_i, cat_l, cat_r, List.filter_cons, List.filter_nil, Bool.false_eq_true, l_of0, lv_args, Nat.reduceBEq, Nat.reduceAdd, Nat.reduceLeDiff, Nat.reduceLT, Bool.not_true, Bool.not_false, Bool.and_true, Bool.true_and, Bool.and_false, Bool.false_and, Nat.reduceEqDiff, reduceIte, List.contains_cons, List.contains_nil, Bool.or_false, Bool.or_true, Bool.false_or, Bool.true_or, Fin.isValue, Fin.val_zero, Fin.val_one, Fin.val_two, Fin.reduceFinMk, Option.toList_some, Option.toList_none, List.nil_append, List.cons_append, zwt_nil, zwt_i, zwt_l, zwt_r, zthr_nil, List.isEmpty_nil, zcE, ↓ar_k, lgc0, true_and, and_true, true_implies, implies_true, false_implies, forall_const, i_len, ob_0, ob_1, ↓bI_01, bI_0, not_true_eq_false, not_false_eq_true, Bool.not_eq_false, Bool.not_eq_true, ia_add, ia_sub, ia_mul, ia_neg, ↓ldI, ↓ldL, zaI_c, zaL_c, ↓zlen_I, ↓zlen_L, ↓stI, ↓stL, gD_sI, gN_sI, gI_sI, gJ_sI, gR_sI, gA_sI, gB_sI, gT_sI, gD_sJ, gN_sJ, gI_sJ, gJ_sJ, gR_sJ, gA_sJ, gB_sJ, gT_sJ, gD_sR, gN_sR, gI_sR, gJ_sR, gR_sR, gA_sR, gB_sR, gT_sR, gD_sA, gN_sA, gI_sA, gJ_sA, gR_sA, gA_sA, gB_sA, gT_sA, gD_sB, gN_sB, gI_sB, gJ_sB, gR_sB, gA_sB, gB_sB, gT_sB, e_has, e_bA, e_mn, e_mx, e_pcI, e_pcL, e_low, zml_43, zg43_0, zb43_0, zb43_19, zg43_91, zb43_91, zg43_97, zb43_97, zmc_26, zms_26, zow_26, zhd_26, zmc_42, zms_42, zow_42, zhd_42, zmc_43, zms_43, zow_43, zhd_43, zmc_31, zms_31, zow_31, zhd_31, ↓gf_5_1, ↓gf_8_10, ↓gf_8_15, ↓gf_8_8, show (Int8.ofInt 48).toInt32 = Int32.ofInt 48 from rfl, show ztg 23 74 = 97 from rfl, show ztg 30 67 = 97 from rfl, show ztg 57 34 = 91 from rfl, show ztg 94 (-75) = 19 from rfl, LTown_g (CT_L h), LTown_d (CT_L h), LTown_r6 (CT_L h), LTown_k6 (CT_L h), LTown_n6 (CT_L h), LTown_r7 (CT_L h), LTown_k7 (CT_L h), LTown_n7 (CT_L h), LTown_r8 (CT_L h), LTown_k8 (CT_L h), LTown_n8 (CT_L h), LTown_r9 (CT_L h), LTown_k9 (CT_L h), LTown_n9 (CT_L h), LTown_r10 (CT_L h), LTown_k10 (CT_L h), LTown_n10 (CT_L h), LTown_r11 (CT_L h), LTown_k11 (CT_L h), LTown_n11 (CT_L h), LTown_r12 (CT_L h), LTown_k12 (CT_L h), LTown_n12 (CT_L h), LTown_r13 (CT_L h), LTown_k13 (CT_L h), LTown_n13 (CT_L h), LTown_r14 (CT_L h), LTown_k14 (CT_L h), LTown_n14 (CT_L h), LTown_r15 (CT_L h), LTown_k15 (CT_L h), LTown_n15 (CT_L h), LTown_r16 (CT_L h), LTown_k16 (CT_L h), LTown_n16 (CT_L h), LTown_r17 (CT_L h), LTown_k17 (CT_L h), LTown_n17 (CT_L h), LTown_r18 (CT_L h), LTown_k18 (CT_L h), LTown_n18 (CT_L h), LRoutes_d hr, LRoutes_r0 hr, LRoutes_k0 hr, LRoutes_n0 hr, LRoutes_r1 hr, LRoutes_k1 hr, LRoutes_n1 hr]
  try simp (disch := omega) only [ii_lt, ii_le, ii_eq, ii_eq0, ii_lt0, ii_0lt, ii_le0, ii_0le, i_inT, i_natN, i_nat, ia_div, ia_rem, hs_ofI, i_1shl, i_or, i_bit, true_and, and_true, not_true_eq_false, not_false_eq_true, true_implies, false_implies, implies_true, Int.reduceLT, Int.reduceLE, Int.reduceEq, Int.reduceNeg, Int.toNat_natCast, Int.reduceToNat, Nat.reduceLeDiff, Nat.reduceAdd, tn_2, tn_2p, tn_48, tn_48r, tn_3, tn_3p, tn_3q, tn_p1, tn_d2, tn_12]
  rw [CT_b h m hml]
  try simp (disch := omega) only [ii_lt, ii_le, ii_eq, ii_eq0, ii_lt0, ii_0lt, ii_le0, ii_0le, i_inT, i_natN, i_nat, ia_div, ia_rem, hs_ofI, i_1shl, i_or, i_bit, true_and, and_true, not_true_eq_false, not_false_eq_true, true_implies, false_implies, implies_true, Int.reduceLT, Int.reduceLE, Int.reduceEq, Int.reduceNeg, Int.toNat_natCast, Int.reduceToNat, Nat.reduceLeDiff, Nat.reduceAdd, tn_2, tn_2p, tn_48, tn_48r, tn_3, tn_3p, tn_3q, tn_p1, tn_d2, tn_12]
  have key : ∀ i : Nat, i ≤ 48 → ∀ (be : Int64) (f : Nat → Int32), (∀ j, bt be j = true → bt op j = true ∧ isA T j = true) → cp (bt be) 48 + i ≤ 48 → (∀ a, a < 48 → bt be a = false → f a = Int32.ofInt ((if bt op a = true ∧ R a m = true then min (v a) (ln T a + v m) else v a : Nat) : Int)) → (∀ a, a < 48 → bt be a = true → f a = Int32.ofInt (v a)) → f m = Int32.ofInt (v m) → zfp zP (zcall zP 43) 43 Q 19 [(0, .ref 56), (1, .ref t), (2, .ref q), (3, .int (Int32.ofInt m)), (6, .long be), (8, .int (Int32.ofInt i))] [] (hOf (sA σ 58 f)) 0 0 := by
    refine bk 48 ?_
    intro i hi ih be f h1 h2 h3 h4 h5
    have lt48 : ∀ j, bt be j = true → j < 48 := fun j hj => by have := isA_lt (h1 j hj).2; omega
    have fin : be = 0 → Q (.inl none) (hOf (sA σ 58 f)) := by
      intro h0
      exact hQ f (fun a ha => h3 a ha (by rw [h0, bt_0]))
    rw [zg43_19]
    simp only [zx_iconst, zx_bipush, zx_sipush, zx_lconst, zx_ldc, zx_ldcS, zx_ldc_w, zx_ldc2_w, zx_iload_n, zx_iload, zx_lload_n, zx_lload, zx_aload_n, zx_aload, zx_istore_n, zx_istore, zx_lstore_n, zx_lstore, zx_astore_n, zx_astore, zx_iinc, zx_iadd, zx_isub, zx_imul, zx_iand, zx_ior, zx_ixor, zx_ishl, zx_ishr, zx_iushr, zx_idiv, zx_irem, zx_ineg, zx_ladd, zx_lsub, zx_land, zx_lor, zx_lxor, zx_lneg, zx_lshl, zx_lushr, zx_i2l, zx_l2i, zx_lcmp, zx_dup, zx_dup2, zx_pop, zx_goto, zx_if_eq, zx_if_ne, zx_if_lt, zx_if_ge, zx_if_gt, zx_if_le, zx_icmp_eq, zx_icmp_ne, zx_icmp_lt, zx_icmp_ge, zx_icmp_gt, zx_icmp_le, zx_getfield, zx_putfield, zx_iaload, zx_laload, zx_aaload, zx_iastore, zx_lastore, zx_arraylength, zx_ireturn, zx_lreturn, zx_areturn, zx_return, zx_athrow, zx_static0, zx_static1, zx_virt1, zx_static2, zx_virt2, zx_static3, zx_virt3, zx_static4, zx_virt4, zx_static5, zx_virt5, zx_static6, zx_virt6, zx_static7, zx_virt7, zx_cpI, zx_cpL, ↓cpI, ↓cpL, zx_slen, zx_schr, zx_tsw, zx_spec3, new_X, zx_new1, zrun_nil, zrun_cons, ↓zgi_h, ↓zgi_n, ↓zgl_h, ↓zgl_n, ↓zgr_h, ↓zgr_n, zset1, zset2, zins_nil, zins_c, f3, cat_i, cat_l, cat_r, List.filter_cons, List.filter_nil, Bool.false_eq_true, l_of0, lv_args, Nat.reduceBEq, Nat.reduceAdd, Nat.reduceLeDiff, Nat.reduceLT, Bool.not_true, Bool.not_false, Bool.and_true, Bool.true_and, Bool.and_false, Bool.false_and, Nat.reduceEqDiff, reduceIte, List.contains_cons, List.contains_nil, Bool.or_false, Bool.or_true, Bool.false_or, Bool.true_or, Fin.isValue, Fin.val_zero, Fin.val_one, Fin.val_two, Fin.reduceFinMk, Option.toList_some, Option.toList_none, List.nil_append, List.cons_append, zwt_nil, zwt_i, zwt_l, zwt_r, zthr_nil, List.isEmpty_nil, zcE, ↓ar_k, lgc0, true_and, and_true, true_implies, implies_true, false_implies, forall_const, i_len, ob_0, ob_1, ↓bI_01, bI_0, not_true_eq_false, not_false_eq_true, Bool.not_eq_false, Bool.not_eq_true, ia_add, ia_sub, ia_mul, ia_neg, ↓ldI, ↓ldL, zaI_c, zaL_c, ↓zlen_I, ↓zlen_L, ↓stI, ↓stL, gD_sI, gN_sI, gI_sI, gJ_sI, gR_sI, gA_sI, gB_sI, gT_sI, gD_sJ, gN_sJ, gI_sJ, gJ_sJ, gR_sJ, gA_sJ, gB_sJ, gT_sJ, gD_sR, gN_sR, gI_sR, gJ_sR, gR_sR, gA_sR, gB_sR, gT_sR, gD_sA, gN_sA, gI_sA, gJ_sA, gR_sA, gA_sA, gB_sA, gT_sA, gD_sB, gN_sB, gI_sB, gJ_sB, gR_sB, gA_sB, gB_sB, gT_sB, e_has, e_bA, e_mn, e_mx, e_pcI, e_pcL, e_low, zml_43, zg43_0, zb43_0, zb43_19, zg43_91, zb43_91, zg43_97, zb43_97, zmc_26, zms_26, zow_26, zhd_26, zmc_42, zms_42, zow_42, zhd_42, zmc_43, zms_43, zow_43, zhd_43, zmc_31, zms_31, zow_31, zhd_31, ↓gf_5_1, ↓gf_8_10, ↓gf_8_15, ↓gf_8_8, show (Int8.ofInt 48).toInt32 = Int32.ofInt 48 from rfl, show ztg 23 74 = 97 from rfl, show ztg 30 67 = 97 from rfl, show ztg 57 34 = 91 from rfl, show ztg 94 (-75) = 19 from rfl, LTown_g (CT_L h), LTown_d (CT_L h), LTown_r6 (CT_L h), LTown_k6 (CT_L h), LTown_n6 (CT_L h), LTown_r7 (CT_L h), LTown_k7 (CT_L h), LTown_n7 (CT_L h), LTown_r8 (CT_L h), LTown_k8 (CT_L h), LTown_n8 (CT_L h), LTown_r9 (CT_L h), LTown_k9 (CT_L h), LTown_n9 (CT_L h), LTown_r10 (CT_L h), LTown_k10 (CT_L h), LTown_n10 (CT_L h), LTown_r11 (CT_L h), LTown_k11 (CT_L h), LTown_n11 (CT_L h), LTown_r12 (CT_L h), LTown_k12 (CT_L h), LTown_n12 (CT_L h), LTown_r13 (CT_L h), LTown_k13 (CT_L h), LTown_n13 (CT_L h), LTown_r14 (CT_L h), LTown_k14 (CT_L h), LTown_n14 (CT_L h), LTown_r15 (CT_L h), LTown_k15 (CT_L h), LTown_n15 (CT_L h), LTown_r16 (CT_L h), LTown_k16 (CT_L h), LTown_n16 (CT_L h), LTown_r17 (CT_L h), LTown_k17 (CT_L h), LTown_n17 (CT_L h), LTown_r18 (CT_L h), LTown_k18 (CT_L h), LTown_n18 (CT_L h), LRoutes_d hr, LRoutes_r0 hr, LRoutes_k0 hr, LRoutes_n0 hr, LRoutes_r1 hr, LRoutes_k1 hr, LRoutes_n1 hr, hd, hn, gA_self, sA_sA, eq_false (show ¬ t + 5 = 58 from by omega)]
    try simp (disch := omega) only [ii_lt, ii_le, ii_eq, ii_eq0, ii_lt0, ii_0lt, ii_le0, ii_0le, i_inT, i_natN, i_nat, ia_div, ia_rem, hs_ofI, i_1shl, i_or, i_bit, true_and, and_true, not_true_eq_false, not_false_eq_true, true_implies, false_implies, implies_true, Int.reduceLT, Int.reduceLE, Int.reduceEq, Int.reduceNeg, Int.toNat_natCast, Int.reduceToNat, Nat.reduceLeDiff, Nat.reduceAdd, tn_2, tn_2p, tn_48, tn_48r, tn_3, tn_3p, tn_3q, tn_p1, tn_d2, tn_12]
    refine ⟨fun c => fin (bt_le64 (p := fun _ => True) lt48 (by omega)), fun c => ⟨fun c2 => fin c2, fun c2 => ?_⟩⟩
    rw [bt_ne0] at c2
    obtain ⟨j0, hj0⟩ := c2
    obtain ⟨k, hk⟩ := lo_ex j0 hj0
    have hk48 : k < 48 := lt48 k hk.1
    have hka := (h1 k hk.1).2
    have hkl := isA_lt hka
    have hbk := wf_bg hw hkl
    rw [low_of hk]
    have rs : ∀ j, bt (be &&& (be - Int64.ofNat 1)) j = (bt be j && decide (j ≠ k)) := fun j => bt_rest hk
    generalize be &&& (be - Int64.ofNat 1) = rest at rs ⊢
    have c3 : cp (bt be) 48 = cp (bt rest) 48 + 1 := cp_rem 48 hk48 hk.1 rs
    have hmk : m ≠ k := by
      intro e
      rw [e, (h1 k hk.1).1] at hop
      cases hop
    have hr1 : ∀ j, bt rest j = true → bt op j = true ∧ isA T j = true := by
      intro j hj
      rw [rs, Bool.and_eq_true] at hj
      exact h1 j hj.1
    try simp (disch := omega) only [ii_lt, ii_le, ii_eq, ii_eq0, ii_lt0, ii_0lt, ii_le0, ii_0le, i_inT, i_natN, i_nat, ia_div, ia_rem, hs_ofI, i_1shl, i_or, i_bit, true_and, and_true, not_true_eq_false, not_false_eq_true, true_implies, false_implies, implies_true, Int.reduceLT, Int.reduceLE, Int.reduceEq, Int.reduceNeg, Int.toNat_natCast, Int.reduceToNat, Nat.reduceLeDiff, Nat.reduceAdd, tn_2, tn_2p, tn_48, tn_48r, tn_3, tn_3p, tn_3q, tn_p1, tn_d2, tn_12, hR.1 k hkl, CT_l h k hkl, h5, h4 k hk48 hk.1]
    have hvk := (hv k hk48).2
    have hvm := (hv m (by omega)).2
    refine ⟨fun c4 => ?_, fun c4 => ?_⟩
    · refine zjf rfl (ih (by omega) rest f hr1 (by omega) ?_ ?_ h5)
      · intro a ha hra
        rw [rs] at hra
        by_cases e : a = k
        · rw [if_neg (by rw [e, c4]; simp), e]
          exact h4 k hk48 hk.1
        · rw [decide_eq_true e, Bool.and_true] at hra
          exact h3 a ha hra
      · intro a ha hra
        rw [rs, Bool.and_eq_true] at hra
        exact h4 a ha hra.1
    · try simp (disch := omega) only [ii_lt, ii_le, ii_eq, ii_eq0, ii_lt0, ii_0lt, ii_le0, ii_0le, i_inT, i_natN, i_nat, ia_div, ia_rem, hs_ofI, i_1shl, i_or, i_bit, true_and, and_true, not_true_eq_false, not_false_eq_true, true_implies, false_implies, implies_true, Int.reduceLT, Int.reduceLE, Int.reduceEq, Int.reduceNeg, Int.toNat_natCast, Int.reduceToNat, Nat.reduceLeDiff, Nat.reduceAdd, tn_2, tn_2p, tn_48, tn_48r, tn_3, tn_3p, tn_3q, tn_p1, tn_d2, tn_12, mn_of, ia_add]
      refine zjf rfl (ih (by omega) rest _ hr1 (by omega) ?_ ?_ ?_)
      · intro a ha hra
        rw [rs] at hra
        show (if a = k then _ else _) = _
        by_cases e : a = k
        · rw [if_pos e, e, if_pos ⟨(h1 k hk.1).1, c4⟩]
          congr 1
          omega
        · rw [if_neg e]
          rw [decide_eq_true e, Bool.and_true] at hra
          exact h3 a ha hra
      · intro a ha hra
        rw [rs, Bool.and_eq_true, decide_eq_true_eq] at hra
        show (if a = k then _ else _) = _
        rw [if_neg hra.2]
        exact h4 a ha hra.1
      · show (if m = k then _ else _) = _
        rw [if_neg hmk]
        exact h5
  have hbe : ∀ a, bt (gB σ (t + 10) (bg T m) &&& op) a = (isA T a && decide (en T a = bg T m) && bt op a) := by
    intro a
    rw [bt_and, hS.2.1 _ (by omega)]
  have := key 0 (by omega) (gB σ (t + 10) (bg T m) &&& op) (gA σ 58) ?_ (by have := cp_le (p := bt (gB σ (t + 10) (bg T m) &&& op)) 48; omega) ?_ (fun a ha _ => (hv a ha).1) (hv m (by omega)).1
  · rw [sA_same rfl] at this
    exact zjf rfl this
  · intro j hj
    rw [hbe, Bool.and_eq_true, Bool.and_eq_true] at hj
    exact ⟨hj.2, hj.1.1⟩
  · intro a ha hb
    rw [hbe] at hb
    rw [if_neg, (hv a ha).1]
    intro z
    rw [z.1, (hR.2 a m z.2).1, decide_eq_true (hE a m z.2)] at hb
    cases hb
