/-! THE LAST QUESTIONS -/
theorem u_brg {σ : zS} {t m : Nat} {s : Ab} {Q : zQ} (h : CI σ t s) (hm : m ≤ xn s) (hQ : ∀ τ, fQ σ τ → CI τ t s → QC τ t (xT s) (xH s m) → Q (.inl none) (hOf τ)) : zW zP 27 [.ref 48, .int (Int32.ofInt m), .ref t, .ref 52] (hOf σ) Q := by
  have ht := CI_t h
  refine u_bring (CI_T h) (CI_w h) (CI_S h) (LA_Rules (CI_A h)) (LA_Changes (CI_A h)) (CI_n h) (CI_H h) (CI_L h) (CI_v h).2.2.2.2.1 hm (fun f g x hR hx => ?_)
  have fz1 : fz 53 56 σ (sB (sB (sB σ 53 f) 54 g) 55 x) := fz_trans (fz_trans (fz_sB (by omega)) (fz_sB (by omega))) (fz_sB (by omega))
  obtain ⟨p, b, hp⟩ := CI_p h
  have fq1 : fQ σ (sB (sB (sB σ 53 f) 54 g) 55 x) := fQ_z fz1 (by omega)
  have hC : CI (sB (sB (sB σ 53 f) 54 g) 55 x) t s := CI_fQ fq1 h (LA_fz fz1 (CI_A h)) ⟨p, b, PS_fs (fs_z fz1) hp⟩ (by obtain ⟨q, q1, q2⟩ := CI_q h; exact ⟨q, q1, q2⟩)
  refine hQ _ fq1 hC ⟨CI_A hC, CI_T hC, CI_w h, CI_S hC, CI_l hC, ?_, ?_⟩
  · rw [gB_sB, if_neg (by omega), gB_sB, if_neg (by omega), gB_self, gB_sB, if_neg (by omega), gB_self]
    exact hR
  · rw [gB_self]
    exact hx
/-- parts: two arcs of one; the least of its part; a part's size; the greatest so far -/
noncomputable def eqv (R : Nat → Nat → Bool) (a b : Nat) : Bool := cB (rt R a b ∧ rt R b a)
noncomputable def pmn (T : Tw) (R : Nat → Nat → Bool) (a : Nat) : Bool := cB (isA T a = true ∧ ∀ b, b < a → eqv R a b = false)
noncomputable def psz (R : Nat → Nat → Bool) (a : Nat) : Nat := cp (eqv R a) 64
noncomputable def pmx (T : Tw) (R : Nat → Nat → Bool) : Nat → Nat
  | 0 => 0
  | n + 1 => if pmn T R n = true then max (pmx T R n) (psz R n) else pmx T R n
theorem pmx_le {T : Tw} {R : Nat → Nat → Bool} : ∀ n, pmx T R n ≤ 64
  | 0 => Nat.zero_le _
  | n + 1 => by
    have h := pmx_le (T := T) (R := R) n
    have h2 := cp_le (p := eqv R n) 64
    show (if _ then _ else _) ≤ _
    unfold psz
    split
    · exact Nat.max_le.2 ⟨h, h2⟩
    · exact h
theorem pmx_flat {T : Tw} {R : Nat → Nat → Bool} {m : Nat} : ∀ n, m ≤ n → (∀ j, m ≤ j → j < n → pmn T R j = false) → pmx T R n = pmx T R m := by
  intro n hn h
  obtain ⟨d, rfl⟩ : ∃ d, n = m + d := ⟨n - m, by omega⟩
  induction d with
  | zero => rfl
  | succ d ih =>
    show (if pmn T R (m + d) = true then _ else _) = _
    rw [if_neg (by rw [h (m + d) (by omega) (by omega)]; simp)]
    exact ih (by omega) (fun j h1 h2 => h j h1 (by omega))
theorem eqv_r {R : Nat → Nat → Bool} {a : Nat} : eqv R a a = true := cB_iff.2 ⟨rt_refl, rt_refl⟩
theorem eqv_s {R : Nat → Nat → Bool} {a b : Nat} (h : eqv R a b = true) : eqv R b a = true := cB_iff.2 ⟨(cB_iff.1 h).2, (cB_iff.1 h).1⟩
theorem eqv_t {R : Nat → Nat → Bool} {a b c : Nat} (h : eqv R a b = true) (g : eqv R b c = true) : eqv R a c = true := cB_iff.2 ⟨rt_trans (cB_iff.1 h).1 (cB_iff.1 g).1, rt_trans (cB_iff.1 g).2 (cB_iff.1 h).2⟩
theorem eqv_m {T : Tw} {R : Nat → Nat → Bool} (hR : ∀ a b, R a b = true → isA T a = true ∧ isA T b = true) {a : Nat} (ha : isA T a = true) : ∃ k, eqv R a k = true ∧ pmn T R k = true ∧ ∀ b, eqv R a b = true → k ≤ b := by
  obtain ⟨k, h1, h2⟩ := lw_ex (p := fun k => eqv R a k = true) (n := a) eqv_r
  have h3 := (lw_some.1 h1).2
  refine ⟨k, h2, cB_iff.2 ⟨rt_A hR ha (cB_iff.1 h2).1, fun b hb => ?_⟩, fun b hb => ?_⟩
  · cases e : eqv R k b with
    | false => rfl
    | true => exact absurd (eqv_t h2 e) (h3 b hb)
  · apply Classical.byContradiction
    intro hn
    exact h3 b (by omega) hb
theorem pcL_cp {m : Int64} : pcL m = Int32.ofInt (cp (bt m) 64) := by
  rw [pcL_eq, ← cp_cn]
  rfl
noncomputable def a_parts (s : Ab) (w : Int) (v : Int) : Nat ⊕ Int := if 0 ≤ v ∧ v ≤ (1 : Int) then (if 0 ≤ w ∧ w ≤ (xn s : Int) then .inr (if v = 0 then (cp (pmn (xT s) (nx (xT s) (xH s w.toNat))) 48 : Nat) else (pmx (xT s) (nx (xT s) (xH s w.toNat)) 48 : Nat)) else .inl 0) else .inl 0
theorem k_parts {σ : zS} {t : Nat} {s : Ab} {w v : Int} {Q : zQ} (h : CI σ t s) (hw : -2147483648 ≤ w ∧ w < 2147483648) (hv : -2147483648 ≤ v ∧ v < 2147483648) (hQ : ∀ τ, fQ σ τ → CI τ t s → QV Q (a_parts s w v) (hOf τ)) : zW zP 126 [.ref 16, .int (Int32.ofInt w), .int (Int32.ofInt v)] (hOf σ) Q := by
  have ht := CI_t h
  have lM := LA_Main (CI_A h)
  have hwf := CI_w h
  have h16 := hwf.1
  have h24 := hwf.2.1
  have h12 := hwf.2.2.1
  have h200 := (CI_v h).2.2.2.2.1
  have hg := CI_g h
  unfold a_parts at hQ
  rw [zWE]
  simp -implicitDefEqProofs only [zx_iconst, zx_bipush, zx_sipush, zx_lconst, zx_ldc, zx_ldcS, zx_ldc_w, zx_ldc2_w, zx_iload, zx_lload, zx_aload, zx_istore_n, zx_istore, zx_lstore_n, zx_lstore, zx_astore_n, zx_astore, zx_iinc, zx_iadd, zx_isub, zx_imul, zx_iand, zx_ior, zx_ixor, zx_ishl, zx_ishr, zx_iushr, zx_idiv, zx_irem, zx_ineg, zx_ladd, zx_lsub, zx_land, zx_lor, zx_lxor, zx_lneg, zx_lshl, zx_lushr, zx_i2l, zx_l2i, zx_lcmp, zx_dup, zx_dup2, zx_pop, zx_goto, zx_if_eq, zx_if_ne, zx_if_lt, zx_if_ge, zx_if_gt, zx_if_le, zx_icmp_eq, zx_icmp_ne, zx_icmp_lt, zx_icmp_ge, zx_icmp_gt, zx_icmp_le, zx_getfield, zx_putfield, zx_iaload, zx_laload, zx_aaload, zx_iastore, zx_lastore, zx_arraylength, zx_ireturn, zx_lreturn, zx_areturn, zx_return, zx_athrow, zx_static0, zx_static1, zx_virt1, zx_static2, zx_virt2, zx_static3, zx_virt3, zx_static4, zx_virt4, zx_static5, zx_virt5, zx_static6, zx_virt6, zx_static7, zx_virt7, zx_cpI, zx_cpL, ↓cpI, ↓cpL, zx_slen, zx_schr, zx_tsw, zx_spec3, new_X, zx_new1, zrun_nil, zrun_cons, ↓zgi_h, ↓zgi_n, ↓zgl_h, ↓zgl_n, ↓zgr_h, ↓zgr_n, zset1, zset2, zins_nil, zins_c, f3, cat_i, cat_l, cat_r, List.filter_cons, List.filter_nil, Bool.false_eq_true, l_of0, lv_args, Nat.reduceBEq, Nat.reduceAdd, Nat.reduceLeDiff, Nat.reduceLT, Bool.not_true, Bool.not_false, Bool.and_true, Bool.true_and, Bool.and_false, Bool.false_and, Nat.reduceEqDiff, reduceIte, List.contains_cons, List.contains_nil, Bool.or_false, Bool.or_true, Bool.false_or, Bool.true_or, Fin.isValue, Fin.val_zero, Fin.val_one, Fin.val_two, Fin.reduceFinMk, Option.toList_some, Option.toList_none, List.nil_append, List.cons_append, zwt_nil, zwt_i, zwt_l, zwt_r, zthr_nil, List.isEmpty_nil, zcE, ↓ar_k, lgc0, true_and, and_true, true_implies, implies_true, false_implies, forall_const, i_len, ob_0, ob_1, ↓bI_01, bI_0, not_true_eq_false, not_false_eq_true, Bool.not_eq_false, Bool.not_eq_true, ia_add, ia_sub, ia_mul, ia_neg, ↓ldI, ↓ldL, zaI_c, zaL_c, ↓zlen_I, ↓zlen_L, ↓stI, ↓stL, gD_sI, gN_sI, gI_sI, gJ_sI, gR_sI, gA_sI, gB_sI, gT_sI, gD_sJ, gN_sJ, gI_sJ, gJ_sJ, gR_sJ, gA_sJ, gB_sJ, gT_sJ, gD_sR, gN_sR, gI_sR, gJ_sR, gR_sR, gA_sR, gB_sR, gT_sR, gD_sA, gN_sA, gI_sA, gJ_sA, gR_sA, gA_sA, gB_sA, gT_sA, gD_sB, gN_sB, gI_sB, gJ_sB, gR_sB, gA_sB, gB_sB, gT_sB, zx_il0, zx_il1, zx_il2, zx_il3, zx_ll0, zx_ll1, zx_ll2, zx_ll3, zx_al0, zx_al1, zx_al2, zx_al3, e_has, e_bA, e_mn, e_mx, e_pcI, e_pcL, e_low, zml_126, zg126_0, zb126_0, zb126_28, zg126_95, zb126_95, zg126_103, zb126_103, zg126_105, zb126_105, zmc_39, zms_39, zow_39, zhd_39, zmc_41, zms_41, zow_41, zhd_41, zmc_42, zms_42, zow_42, zhd_42, zmc_54, zms_54, zow_54, zhd_54, zmc_28, zms_28, zow_28, zhd_28, zmc_125, zms_125, zow_125, zhd_125, zmc_126, zms_126, zow_126, zhd_126, ↓gf_10_3, ↓gf_10_7, ↓gf_6_2, ↓gf_8_5, ↓gv_10, show (Int8.ofInt 48).toInt32 = Int32.ofInt 48 from rfl, show ztg 100 5 = 105 from rfl, show ztg 32 63 = 95 from rfl, show ztg 39 56 = 95 from rfl, show ztg 92 (-64) = 28 from rfl, show ztg 96 7 = 103 from rfl, LMain_d lM, LMain_d17 lM, LMain_n17 lM, LMain_d46 lM, LMain_r0 lM, LMain_r5 lM, LMain_r6 lM, LMain_r7 lM, LMain_r8 lM, LMain_r9 lM, LMain_r10 lM, LMain_r11 lM, LMain_r12 lM, LMain_r13 lM, CI_3 h, e_nW (l := 1) hv (by omega)]
  by_cases c0 : 0 ≤ v ∧ v ≤ (1 : Int)
  rotate_left 1
  · try rw [if_neg c0]
    rw [if_neg c0] at hQ
    exact hQ _ (fQ_nX hg) (CI_nX h)
  try rw [if_pos c0]
  rw [if_pos c0] at hQ
  refine u_look h hw (fun m τ em hm f hC hq => ?_) (fun c => ?_)
  rotate_left 1
  · rw [if_neg c] at hQ
    simp -implicitDefEqProofs only [zx_iconst, zx_bipush, zx_sipush, zx_lconst, zx_ldc, zx_ldcS, zx_ldc_w, zx_ldc2_w, zx_iload, zx_lload, zx_aload, zx_istore_n, zx_istore, zx_lstore_n, zx_lstore, zx_astore_n, zx_astore, zx_iinc, zx_iadd, zx_isub, zx_imul, zx_iand, zx_ior, zx_ixor, zx_ishl, zx_ishr, zx_iushr, zx_idiv, zx_irem, zx_ineg, zx_ladd, zx_lsub, zx_land, zx_lor, zx_lxor, zx_lneg, zx_lshl, zx_lushr, zx_i2l, zx_l2i, zx_lcmp, zx_dup, zx_dup2, zx_pop, zx_goto, zx_if_eq, zx_if_ne, zx_if_lt, zx_if_ge, zx_if_gt, zx_if_le, zx_icmp_eq, zx_icmp_ne, zx_icmp_lt, zx_icmp_ge, zx_icmp_gt, zx_icmp_le, zx_getfield, zx_putfield, zx_iaload, zx_laload, zx_aaload, zx_iastore, zx_lastore, zx_arraylength, zx_ireturn, zx_lreturn, zx_areturn, zx_return, zx_athrow, zx_static0, zx_static1, zx_virt1, zx_static2, zx_virt2, zx_static3, zx_virt3, zx_static4, zx_virt4, zx_static5, zx_virt5, zx_static6, zx_virt6, zx_static7, zx_virt7, zx_cpI, zx_cpL, ↓cpI, ↓cpL, zx_slen, zx_schr, zx_tsw, zx_spec3, new_X, zx_new1, zrun_nil, zrun_cons, ↓zgi_h, ↓zgi_n, ↓zgl_h, ↓zgl_n, ↓zgr_h, ↓zgr_n, zset1, zset2, zins_nil, zins_c, f3, cat_i, cat_l, cat_r, List.filter_cons, List.filter_nil, Bool.false_eq_true, l_of0, lv_args, Nat.reduceBEq, Nat.reduceAdd, Nat.reduceLeDiff, Nat.reduceLT, Bool.not_true, Bool.not_false, Bool.and_true, Bool.true_and, Bool.and_false, Bool.false_and, Nat.reduceEqDiff, reduceIte, List.contains_cons, List.contains_nil, Bool.or_false, Bool.or_true, Bool.false_or, Bool.true_or, Fin.isValue, Fin.val_zero, Fin.val_one, Fin.val_two, Fin.reduceFinMk, Option.toList_some, Option.toList_none, List.nil_append, List.cons_append, zwt_nil, zwt_i, zwt_l, zwt_r, zthr_nil, List.isEmpty_nil, zcE, ↓ar_k, lgc0, true_and, and_true, true_implies, implies_true, false_implies, forall_const, i_len, ob_0, ob_1, ↓bI_01, bI_0, not_true_eq_false, not_false_eq_true, Bool.not_eq_false, Bool.not_eq_true, ia_add, ia_sub, ia_mul, ia_neg, ↓ldI, ↓ldL, zaI_c, zaL_c, ↓zlen_I, ↓zlen_L, ↓stI, ↓stL, gD_sI, gN_sI, gI_sI, gJ_sI, gR_sI, gA_sI, gB_sI, gT_sI, gD_sJ, gN_sJ, gI_sJ, gJ_sJ, gR_sJ, gA_sJ, gB_sJ, gT_sJ, gD_sR, gN_sR, gI_sR, gJ_sR, gR_sR, gA_sR, gB_sR, gT_sR, gD_sA, gN_sA, gI_sA, gJ_sA, gR_sA, gA_sA, gB_sA, gT_sA, gD_sB, gN_sB, gI_sB, gJ_sB, gR_sB, gA_sB, gB_sB, gT_sB, zx_il0, zx_il1, zx_il2, zx_il3, zx_ll0, zx_ll1, zx_ll2, zx_ll3, zx_al0, zx_al1, zx_al2, zx_al3, e_has, e_bA, e_mn, e_mx, e_pcI, e_pcL, e_low, zml_126, zg126_0, zb126_0, zb126_28, zg126_95, zb126_95, zg126_103, zb126_103, zg126_105, zb126_105, zmc_39, zms_39, zow_39, zhd_39, zmc_41, zms_41, zow_41, zhd_41, zmc_42, zms_42, zow_42, zhd_42, zmc_54, zms_54, zow_54, zhd_54, zmc_28, zms_28, zow_28, zhd_28, zmc_125, zms_125, zow_125, zhd_125, zmc_126, zms_126, zow_126, zhd_126, ↓gf_10_3, ↓gf_10_7, ↓gf_6_2, ↓gf_8_5, ↓gv_10, show (Int8.ofInt 48).toInt32 = Int32.ofInt 48 from rfl, show ztg 100 5 = 105 from rfl, show ztg 32 63 = 95 from rfl, show ztg 39 56 = 95 from rfl, show ztg 92 (-64) = 28 from rfl, show ztg 96 7 = 103 from rfl]
    exact hQ _ (fQ_nX hg) (CI_nX h)
  subst em
  rw [if_pos (by omega)] at hQ
  simp only [Int.toNat_natCast] at hQ
  have lM2 := LA_Main (CI_A hC)
  have lR := LA_Rules (QC_A hq)
  have lRo := LA_Routes (QC_A hq)
  have lTw := CT_L (CI_T hC)
  have this := hQ τ f hC
  generalize hR : nx (xT s) (xH s m) = R at *
  have hA : ∀ a b, R a b = true → isA (xT s) a = true ∧ isA (xT s) b = true := by
    rw [← hR]
    exact nx_A
  have hN : NX (gB τ 55) (xT s) R := by
    rw [← hR]
    exact QC_N hq
  simp -implicitDefEqProofs only [zx_iconst, zx_bipush, zx_sipush, zx_lconst, zx_ldc, zx_ldcS, zx_ldc_w, zx_ldc2_w, zx_iload, zx_lload, zx_aload, zx_istore_n, zx_istore, zx_lstore_n, zx_lstore, zx_astore_n, zx_astore, zx_iinc, zx_iadd, zx_isub, zx_imul, zx_iand, zx_ior, zx_ixor, zx_ishl, zx_ishr, zx_iushr, zx_idiv, zx_irem, zx_ineg, zx_ladd, zx_lsub, zx_land, zx_lor, zx_lxor, zx_lneg, zx_lshl, zx_lushr, zx_i2l, zx_l2i, zx_lcmp, zx_dup, zx_dup2, zx_pop, zx_goto, zx_if_eq, zx_if_ne, zx_if_lt, zx_if_ge, zx_if_gt, zx_if_le, zx_icmp_eq, zx_icmp_ne, zx_icmp_lt, zx_icmp_ge, zx_icmp_gt, zx_icmp_le, zx_getfield, zx_putfield, zx_iaload, zx_laload, zx_aaload, zx_iastore, zx_lastore, zx_arraylength, zx_ireturn, zx_lreturn, zx_areturn, zx_return, zx_athrow, zx_static0, zx_static1, zx_virt1, zx_static2, zx_virt2, zx_static3, zx_virt3, zx_static4, zx_virt4, zx_static5, zx_virt5, zx_static6, zx_virt6, zx_static7, zx_virt7, zx_cpI, zx_cpL, ↓cpI, ↓cpL, zx_slen, zx_schr, zx_tsw, zx_spec3, new_X, zx_new1, zrun_nil, zrun_cons, ↓zgi_h, ↓zgi_n, ↓zgl_h, ↓zgl_n, ↓zgr_h, ↓zgr_n, zset1, zset2, zins_nil, zins_c, f3, cat_i, cat_l, cat_r, List.filter_cons, List.filter_nil, Bool.false_eq_true, l_of0, lv_args, Nat.reduceBEq, Nat.reduceAdd, Nat.reduceLeDiff, Nat.reduceLT, Bool.not_true, Bool.not_false, Bool.and_true, Bool.true_and, Bool.and_false, Bool.false_and, Nat.reduceEqDiff, reduceIte, List.contains_cons, List.contains_nil, Bool.or_false, Bool.or_true, Bool.false_or, Bool.true_or, Fin.isValue, Fin.val_zero, Fin.val_one, Fin.val_two, Fin.reduceFinMk, Option.toList_some, Option.toList_none, List.nil_append, List.cons_append, zwt_nil, zwt_i, zwt_l, zwt_r, zthr_nil, List.isEmpty_nil, zcE, ↓ar_k, lgc0, true_and, and_true, true_implies, implies_true, false_implies, forall_const, i_len, ob_0, ob_1, ↓bI_01, bI_0, not_true_eq_false, not_false_eq_true, Bool.not_eq_false, Bool.not_eq_true, ia_add, ia_sub, ia_mul, ia_neg, ↓ldI, ↓ldL, zaI_c, zaL_c, ↓zlen_I, ↓zlen_L, ↓stI, ↓stL, gD_sI, gN_sI, gI_sI, gJ_sI, gR_sI, gA_sI, gB_sI, gT_sI, gD_sJ, gN_sJ, gI_sJ, gJ_sJ, gR_sJ, gA_sJ, gB_sJ, gT_sJ, gD_sR, gN_sR, gI_sR, gJ_sR, gR_sR, gA_sR, gB_sR, gT_sR, gD_sA, gN_sA, gI_sA, gJ_sA, gR_sA, gA_sA, gB_sA, gT_sA, gD_sB, gN_sB, gI_sB, gJ_sB, gR_sB, gA_sB, gB_sB, gT_sB, zx_il0, zx_il1, zx_il2, zx_il3, zx_ll0, zx_ll1, zx_ll2, zx_ll3, zx_al0, zx_al1, zx_al2, zx_al3, e_has, e_bA, e_mn, e_mx, e_pcI, e_pcL, e_low, zml_126, zg126_0, zb126_0, zb126_28, zg126_95, zb126_95, zg126_103, zb126_103, zg126_105, zb126_105, zmc_39, zms_39, zow_39, zhd_39, zmc_41, zms_41, zow_41, zhd_41, zmc_42, zms_42, zow_42, zhd_42, zmc_54, zms_54, zow_54, zhd_54, zmc_28, zms_28, zow_28, zhd_28, zmc_125, zms_125, zow_125, zhd_125, zmc_126, zms_126, zow_126, zhd_126, ↓gf_10_3, ↓gf_10_7, ↓gf_6_2, ↓gf_8_5, ↓gv_10, show (Int8.ofInt 48).toInt32 = Int32.ofInt 48 from rfl, show ztg 100 5 = 105 from rfl, show ztg 32 63 = 95 from rfl, show ztg 39 56 = 95 from rfl, show ztg 92 (-64) = 28 from rfl, show ztg 96 7 = 103 from rfl, LMain_d lM2, LMain_d17 lM2, LMain_n17 lM2, LMain_d46 lM2, LMain_r0 lM2, LMain_r5 lM2, LMain_r6 lM2, LMain_r7 lM2, LMain_r8 lM2, LMain_r9 lM2, LMain_r10 lM2, LMain_r11 lM2, LMain_r12 lM2, LMain_r13 lM2, CI_3 hC, LRules_d lR, LRules_r0 lR, LRules_k0 lR, LRules_n0 lR, LRules_r1 lR, LRules_k1 lR, LRules_n1 lR, LRules_r2 lR, LRules_k2 lR, LRules_n2 lR, LRoutes_d lRo, LRoutes_r0 lRo, LRoutes_k0 lRo, LRoutes_n0 lRo, LRoutes_r1 lRo, LRoutes_k1 lRo, LRoutes_n1 lRo, LTown_g lTw, LTown_d lTw, LTown_r6 lTw, LTown_k6 lTw, LTown_n6 lTw, LTown_r7 lTw, LTown_k7 lTw, LTown_n7 lTw, LTown_r8 lTw, LTown_k8 lTw, LTown_n8 lTw, LTown_r9 lTw, LTown_k9 lTw, LTown_n9 lTw, LTown_r10 lTw, LTown_k10 lTw, LTown_n10 lTw, LTown_r11 lTw, LTown_k11 lTw, LTown_n11 lTw, LTown_r12 lTw, LTown_k12 lTw, LTown_n12 lTw, LTown_r13 lTw, LTown_k13 lTw, LTown_n13 lTw, LTown_r14 lTw, LTown_k14 lTw, LTown_n14 lTw, LTown_r15 lTw, LTown_k15 lTw, LTown_n15 lTw, LTown_r16 lTw, LTown_k16 lTw, LTown_n16 lTw, LTown_r17 lTw, LTown_k17 lTw, LTown_n17 lTw, LTown_r18 lTw, LTown_k18 lTw, LTown_n18 lTw]
  have key : ∀ i : Nat, i ≤ 48 → ∀ (L : Nat) (re : Int64), L ≤ 48 → i = cp (pmn (xT s) R) L → (∀ a, bt re a = true ↔ isA (xT s) a = true ∧ ∀ b, eqv R a b = true → L ≤ b) → zfp zP (zcall zP 126) 126 Q 28 [(0, .ref 16), (2, .int (Int32.ofInt v)), (3, .int (Int32.ofInt (cp (pmn (xT s) R) L))), (4, .int (Int32.ofInt (pmx (xT s) R L))), (5, .long re), (7, .int (Int32.ofInt i))] [] (hOf τ) 2 12 := by
    refine bk _ ?_
    intro i hi ih L re hL hiL hre
    have hpl := pmx_le (T := xT s) (R := R) L
    have fin : re = 0 → (if v = 0 then (cp (pmn (xT s) R) 48 : Int) else (pmx (xT s) R 48 : Int)) = (if v = 0 then (cp (pmn (xT s) R) L : Int) else (pmx (xT s) R L : Int)) := by
      intro h0
      have hno : ∀ j, L ≤ j → j < 48 → pmn (xT s) R j = false := by
        intro j j1 j2
        cases e : pmn (xT s) R j with
        | false => rfl
        | true =>
          obtain ⟨k1, k2⟩ := cB_iff.1 e
          have : bt re j = true := (hre j).2 ⟨k1, fun b hb => by
            apply Classical.byContradiction
            intro hn
            have := k2 b (by omega)
            rw [hb] at this
            cases this⟩
          rw [h0, bt_0] at this
          cases this
      rw [cp_flat 48 hL hno, pmx_flat 48 hL hno]
    rw [zg126_28]
    simp -implicitDefEqProofs only [zx_iconst, zx_bipush, zx_sipush, zx_lconst, zx_ldc, zx_ldcS, zx_ldc_w, zx_ldc2_w, zx_iload, zx_lload, zx_aload, zx_istore_n, zx_istore, zx_lstore_n, zx_lstore, zx_astore_n, zx_astore, zx_iinc, zx_iadd, zx_isub, zx_imul, zx_iand, zx_ior, zx_ixor, zx_ishl, zx_ishr, zx_iushr, zx_idiv, zx_irem, zx_ineg, zx_ladd, zx_lsub, zx_land, zx_lor, zx_lxor, zx_lneg, zx_lshl, zx_lushr, zx_i2l, zx_l2i, zx_lcmp, zx_dup, zx_dup2, zx_pop, zx_goto, zx_if_eq, zx_if_ne, zx_if_lt, zx_if_ge, zx_if_gt, zx_if_le, zx_icmp_eq, zx_icmp_ne, zx_icmp_lt, zx_icmp_ge, zx_icmp_gt, zx_icmp_le, zx_getfield, zx_putfield, zx_iaload, zx_laload, zx_aaload, zx_iastore, zx_lastore, zx_arraylength, zx_ireturn, zx_lreturn, zx_areturn, zx_return, zx_athrow, zx_static0, zx_static1, zx_virt1, zx_static2, zx_virt2, zx_static3, zx_virt3, zx_static4, zx_virt4, zx_static5, zx_virt5, zx_static6, zx_virt6, zx_static7, zx_virt7, zx_cpI, zx_cpL, ↓cpI, ↓cpL, zx_slen, zx_schr, zx_tsw, zx_spec3, new_X, zx_new1, zrun_nil, zrun_cons, ↓zgi_h, ↓zgi_n, ↓zgl_h, ↓zgl_n, ↓zgr_h, ↓zgr_n, zset1, zset2, zins_nil, zins_c, f3, cat_i, cat_l, cat_r, List.filter_cons, List.filter_nil, Bool.false_eq_true, l_of0, lv_args, Nat.reduceBEq, Nat.reduceAdd, Nat.reduceLeDiff, Nat.reduceLT, Bool.not_true, Bool.not_false, Bool.and_true, Bool.true_and, Bool.and_false, Bool.false_and, Nat.reduceEqDiff, reduceIte, List.contains_cons, List.contains_nil, Bool.or_false, Bool.or_true, Bool.false_or, Bool.true_or, Fin.isValue, Fin.val_zero, Fin.val_one, Fin.val_two, Fin.reduceFinMk, Option.toList_some, Option.toList_none, List.nil_append, List.cons_append, zwt_nil, zwt_i, zwt_l, zwt_r, zthr_nil, List.isEmpty_nil, zcE, ↓ar_k, lgc0, true_and, and_true, true_implies, implies_true, false_implies, forall_const, i_len, ob_0, ob_1, ↓bI_01, bI_0, not_true_eq_false, not_false_eq_true, Bool.not_eq_false, Bool.not_eq_true, ia_add, ia_sub, ia_mul, ia_neg, ↓ldI, ↓ldL, zaI_c, zaL_c, ↓zlen_I, ↓zlen_L, ↓stI, ↓stL, gD_sI, gN_sI, gI_sI, gJ_sI, gR_sI, gA_sI, gB_sI, gT_sI, gD_sJ, gN_sJ, gI_sJ, gJ_sJ, gR_sJ, gA_sJ, gB_sJ, gT_sJ, gD_sR, gN_sR, gI_sR, gJ_sR, gR_sR, gA_sR, gB_sR, gT_sR, gD_sA, gN_sA, gI_sA, gJ_sA, gR_sA, gA_sA, gB_sA, gT_sA, gD_sB, gN_sB, gI_sB, gJ_sB, gR_sB, gA_sB, gB_sB, gT_sB, zx_il0, zx_il1, zx_il2, zx_il3, zx_ll0, zx_ll1, zx_ll2, zx_ll3, zx_al0, zx_al1, zx_al2, zx_al3, e_has, e_bA, e_mn, e_mx, e_pcI, e_pcL, e_low, zml_126, zg126_0, zb126_0, zb126_28, zg126_95, zb126_95, zg126_103, zb126_103, zg126_105, zb126_105, zmc_39, zms_39, zow_39, zhd_39, zmc_41, zms_41, zow_41, zhd_41, zmc_42, zms_42, zow_42, zhd_42, zmc_54, zms_54, zow_54, zhd_54, zmc_28, zms_28, zow_28, zhd_28, zmc_125, zms_125, zow_125, zhd_125, zmc_126, zms_126, zow_126, zhd_126, ↓gf_10_3, ↓gf_10_7, ↓gf_6_2, ↓gf_8_5, ↓gv_10, show (Int8.ofInt 48).toInt32 = Int32.ofInt 48 from rfl, show ztg 100 5 = 105 from rfl, show ztg 32 63 = 95 from rfl, show ztg 39 56 = 95 from rfl, show ztg 92 (-64) = 28 from rfl, show ztg 96 7 = 103 from rfl, LMain_d lM2, LMain_d17 lM2, LMain_n17 lM2, LMain_d46 lM2, LMain_r0 lM2, LMain_r5 lM2, LMain_r6 lM2, LMain_r7 lM2, LMain_r8 lM2, LMain_r9 lM2, LMain_r10 lM2, LMain_r11 lM2, LMain_r12 lM2, LMain_r13 lM2, CI_3 hC, LRules_d lR, LRules_r0 lR, LRules_k0 lR, LRules_n0 lR, LRules_r1 lR, LRules_k1 lR, LRules_n1 lR, LRules_r2 lR, LRules_k2 lR, LRules_n2 lR, LRoutes_d lRo, LRoutes_r0 lRo, LRoutes_k0 lRo, LRoutes_n0 lRo, LRoutes_r1 lRo, LRoutes_k1 lRo, LRoutes_n1 lRo, LTown_g lTw, LTown_d lTw, LTown_r6 lTw, LTown_k6 lTw, LTown_n6 lTw, LTown_r7 lTw, LTown_k7 lTw, LTown_n7 lTw, LTown_r8 lTw, LTown_k8 lTw, LTown_n8 lTw, LTown_r9 lTw, LTown_k9 lTw, LTown_n9 lTw, LTown_r10 lTw, LTown_k10 lTw, LTown_n10 lTw, LTown_r11 lTw, LTown_k11 lTw, LTown_n11 lTw, LTown_r12 lTw, LTown_k12 lTw, LTown_n12 lTw, LTown_r13 lTw, LTown_k13 lTw, LTown_n13 lTw, LTown_r14 lTw, LTown_k14 lTw, LTown_n14 lTw, LTown_r15 lTw, LTown_k15 lTw, LTown_n15 lTw, LTown_r16 lTw, LTown_k16 lTw, LTown_n16 lTw, LTown_r17 lTw, LTown_k17 lTw, LTown_n17 lTw, LTown_r18 lTw, LTown_k18 lTw, LTown_n18 lTw]
    try simp (disch := omega) only [ii_lt, ii_le, ii_eq, ii_eq0, ii_lt0, ii_0lt, ii_le0, ii_0le, i_inT, i_natN, i_nat, ia_div, ia_rem, hs_ofI, i_1shl, i_or, i_bit, true_and, and_true, not_true_eq_false, not_false_eq_true, true_implies, false_implies, implies_true, Int.reduceLT, Int.reduceLE, Int.reduceEq, Int.reduceNeg, Int.toNat_natCast, Int.reduceToNat, Nat.reduceLeDiff, Nat.reduceAdd, tn_2, tn_2p, tn_48, tn_48r, tn_3, tn_3p, tn_3q, tn_p1, tn_d2, tn_12, ia_add, ia_sub, ia_mul]
    have done : re = 0 → (¬ v = 0 → Q (.inl (some (.int (Int32.ofInt (pmx (xT s) R L))))) (hOf τ)) ∧ (v = 0 → Q (.inl (some (.int (Int32.ofInt (cp (pmn (xT s) R) L))))) (hOf τ)) := by
      intro h0
      have hf := fin h0
      refine ⟨fun c7 => ?_, fun c7 => ?_⟩
      · rw [if_neg c7, if_neg c7] at hf
        rw [if_neg c7, hf] at this
        exact this
      · rw [if_pos c7, if_pos c7] at hf
        rw [if_pos c7, hf] at this
        exact this
    refine ⟨fun c6 => ?_, fun c6 => ⟨fun c7 => ?_, fun c7 => ?_⟩⟩
    · refine done ?_
      rw [bt_eq0]
      intro j
      cases e : bt re j with
      | false => rfl
      | true =>
        obtain ⟨k1, k2⟩ := (hre j).1 e
        have h1 := k2 j eqv_r
        have h2 := cp_le (p := pmn (xT s) R) L
        have h3 := isA_lt k1
        omega
    · exact done c7
    · rw [bt_ne0] at c7
      obtain ⟨j0, hj0⟩ := c7
      obtain ⟨k, hk⟩ := lo_ex j0 hj0
      obtain ⟨ka, kb⟩ := (hre k).1 hk.1
      have kL := kb k eqv_r
      have k48 := isA_lt ka
      rw [low_of hk]
      refine u_part (QC_T hq) hwf (LRules_k2 lR) (LRules_n2 lR) hN ka (fun pa hpa => ?_)
      have hpb : ∀ b, bt pa b = eqv R k b := fun b => cB_of (hpa b)
      have hmin : ∀ j, L ≤ j → j < k → pmn (xT s) R j = false := by
        intro j j1 j2
        cases e : pmn (xT s) R j with
        | false => rfl
        | true =>
          obtain ⟨k1, k2⟩ := cB_iff.1 e
          have : bt re j = true := (hre j).2 ⟨k1, fun b hb => by
            apply Classical.byContradiction
            intro hn
            have := k2 b (by omega)
            rw [hb] at this
            cases this⟩
          rw [hk.2 j j2] at this
          cases this
      have hkm : pmn (xT s) R k = true := by
        obtain ⟨k1, h1, h2, h3⟩ := eqv_m hA ka
        have h4 : bt re k1 = true := (hre k1).2 ⟨(cB_iff.1 h2).1, fun b hb => kb b (eqv_t h1 hb)⟩
        have h5 : ¬ k1 < k := fun z => by rw [hk.2 k1 z] at h4; cases h4
        have h6 := h3 k eqv_r
        rw [show k = k1 from by omega]
        exact h2
      have hcp : cp (pmn (xT s) R) (k + 1) = cp (pmn (xT s) R) L + 1 := by
        rw [cp_t hkm, cp_flat k kL hmin]
      have hpx : pmx (xT s) R (k + 1) = max (pmx (xT s) R L) (psz R k) := by
        show (if pmn (xT s) R k = true then _ else _) = _
        rw [if_pos hkm, pmx_flat k kL hmin]
      have hsz : cp (bt pa) 64 = psz R k := cp_congr 64 (fun j _ => hpb j)
      have hsl : psz R k ≤ 64 := cp_le 64
      simp -implicitDefEqProofs only [zx_iconst, zx_bipush, zx_sipush, zx_lconst, zx_ldc, zx_ldcS, zx_ldc_w, zx_ldc2_w, zx_iload, zx_lload, zx_aload, zx_istore_n, zx_istore, zx_lstore_n, zx_lstore, zx_astore_n, zx_astore, zx_iinc, zx_iadd, zx_isub, zx_imul, zx_iand, zx_ior, zx_ixor, zx_ishl, zx_ishr, zx_iushr, zx_idiv, zx_irem, zx_ineg, zx_ladd, zx_lsub, zx_land, zx_lor, zx_lxor, zx_lneg, zx_lshl, zx_lushr, zx_i2l, zx_l2i, zx_lcmp, zx_dup, zx_dup2, zx_pop, zx_goto, zx_if_eq, zx_if_ne, zx_if_lt, zx_if_ge, zx_if_gt, zx_if_le, zx_icmp_eq, zx_icmp_ne, zx_icmp_lt, zx_icmp_ge, zx_icmp_gt, zx_icmp_le, zx_getfield, zx_putfield, zx_iaload, zx_laload, zx_aaload, zx_iastore, zx_lastore, zx_arraylength, zx_ireturn, zx_lreturn, zx_areturn, zx_return, zx_athrow, zx_static0, zx_static1, zx_virt1, zx_static2, zx_virt2, zx_static3, zx_virt3, zx_static4, zx_virt4, zx_static5, zx_virt5, zx_static6, zx_virt6, zx_static7, zx_virt7, zx_cpI, zx_cpL, ↓cpI, ↓cpL, zx_slen, zx_schr, zx_tsw, zx_spec3, new_X, zx_new1, zrun_nil, zrun_cons, ↓zgi_h, ↓zgi_n, ↓zgl_h, ↓zgl_n, ↓zgr_h, ↓zgr_n, zset1, zset2, zins_nil, zins_c, f3, cat_i, cat_l, cat_r, List.filter_cons, List.filter_nil, Bool.false_eq_true, l_of0, lv_args, Nat.reduceBEq, Nat.reduceAdd, Nat.reduceLeDiff, Nat.reduceLT, Bool.not_true, Bool.not_false, Bool.and_true, Bool.true_and, Bool.and_false, Bool.false_and, Nat.reduceEqDiff, reduceIte, List.contains_cons, List.contains_nil, Bool.or_false, Bool.or_true, Bool.false_or, Bool.true_or, Fin.isValue, Fin.val_zero, Fin.val_one, Fin.val_two, Fin.reduceFinMk, Option.toList_some, Option.toList_none, List.nil_append, List.cons_append, zwt_nil, zwt_i, zwt_l, zwt_r, zthr_nil, List.isEmpty_nil, zcE, ↓ar_k, lgc0, true_and, and_true, true_implies, implies_true, false_implies, forall_const, i_len, ob_0, ob_1, ↓bI_01, bI_0, not_true_eq_false, not_false_eq_true, Bool.not_eq_false, Bool.not_eq_true, ia_add, ia_sub, ia_mul, ia_neg, ↓ldI, ↓ldL, zaI_c, zaL_c, ↓zlen_I, ↓zlen_L, ↓stI, ↓stL, gD_sI, gN_sI, gI_sI, gJ_sI, gR_sI, gA_sI, gB_sI, gT_sI, gD_sJ, gN_sJ, gI_sJ, gJ_sJ, gR_sJ, gA_sJ, gB_sJ, gT_sJ, gD_sR, gN_sR, gI_sR, gJ_sR, gR_sR, gA_sR, gB_sR, gT_sR, gD_sA, gN_sA, gI_sA, gJ_sA, gR_sA, gA_sA, gB_sA, gT_sA, gD_sB, gN_sB, gI_sB, gJ_sB, gR_sB, gA_sB, gB_sB, gT_sB, zx_il0, zx_il1, zx_il2, zx_il3, zx_ll0, zx_ll1, zx_ll2, zx_ll3, zx_al0, zx_al1, zx_al2, zx_al3, e_has, e_bA, e_mn, e_mx, e_pcI, e_pcL, e_low, zml_126, zg126_0, zb126_0, zb126_28, zg126_95, zb126_95, zg126_103, zb126_103, zg126_105, zb126_105, zmc_39, zms_39, zow_39, zhd_39, zmc_41, zms_41, zow_41, zhd_41, zmc_42, zms_42, zow_42, zhd_42, zmc_54, zms_54, zow_54, zhd_54, zmc_28, zms_28, zow_28, zhd_28, zmc_125, zms_125, zow_125, zhd_125, zmc_126, zms_126, zow_126, zhd_126, ↓gf_10_3, ↓gf_10_7, ↓gf_6_2, ↓gf_8_5, ↓gv_10, show (Int8.ofInt 48).toInt32 = Int32.ofInt 48 from rfl, show ztg 100 5 = 105 from rfl, show ztg 32 63 = 95 from rfl, show ztg 39 56 = 95 from rfl, show ztg 92 (-64) = 28 from rfl, show ztg 96 7 = 103 from rfl]
      rw [pcL_cp, hsz, mx_of (by omega) (by omega), show max (pmx (xT s) R L : Int) (psz R k : Int) = ((max (pmx (xT s) R L) (psz R k) : Nat) : Int) from by omega, ← hpx]
      have := ih (by omega) (k + 1) (re &&& (pa ^^^ Int64.ofInt (-1))) (by omega) (by omega) (fun a => ?_)
      · rw [hcp] at this
        first | exact this | exact zjf rfl (this)
      · rw [bt_andn, Bool.and_eq_true, hpb a, hre a]
        constructor
        · intro ⟨⟨z1, z2⟩, z3⟩
          refine ⟨z1, fun b hb => ?_⟩
          obtain ⟨k1, h1, h2, h3⟩ := eqv_m hA z1
          have h4 := z2 k1 h1
          have h5 := h3 b hb
          apply Classical.byContradiction
          intro hn
          by_cases e : k1 < k
          · rw [hmin k1 h4 e] at h2
            cases h2
          · have : k1 = k := by omega
            rw [this] at h1
            rw [eqv_s h1] at z3
            cases z3
        · intro ⟨z1, z2⟩
          refine ⟨⟨z1, fun b hb => by have := z2 b hb; omega⟩, ?_⟩
          cases e : eqv R k a with
          | false => rfl
          | true =>
            have := z2 k (eqv_s e)
            omega
  have h0 := key 0 (by omega) 0 (gJ τ t 5) (by omega) rfl (fun a => by
    rw [show bt (gJ τ t 5) a = isA (xT s) a from CT_5 (QC_T hq) a]
    exact ⟨fun z => ⟨z, fun b _ => Nat.zero_le _⟩, fun z => z.1⟩)
  first | exact h0 | exact zjf rfl (h0)
noncomputable def a_since (s : Ab) (x : Int) (y : Int) (w : Int) (b : Bool) : Nat ⊕ Int := if 0 ≤ x ∧ x < (nC (xT s) : Int) then (if 0 ≤ y ∧ y < (nC (xT s) : Int) then (if 0 ≤ w ∧ w ≤ (xn s : Int) then (.inr (oI (lw (fun k => w ≤ (k : Int) ∧ k ≤ xn s ∧ rcB (xT s) (nx (xT s) (xH s k)) x.toNat y.toNat = b)))) else .inl 0) else .inl 2) else .inl 2
theorem k_since {σ : zS} {t : Nat} {s : Ab} {x y w : Int} {b : Bool} {Q : zQ} (h : CI σ t s) (hx : -2147483648 ≤ x ∧ x < 2147483648) (hy : -2147483648 ≤ y ∧ y < 2147483648) (hw : -2147483648 ≤ w ∧ w < 2147483648) (hQ : ∀ τ, fQ σ τ → CI τ t s → QV Q (a_since s x y w b) (hOf τ)) : zW zP 144 [.ref 16, .int (Int32.ofInt x), .int (Int32.ofInt y), .int (Int32.ofInt w), .int (bI b)] (hOf σ) Q := by
  have ht := CI_t h
  have lM := LA_Main (CI_A h)
  have hwf := CI_w h
  have h16 := hwf.1
  have h24 := hwf.2.1
  have h12 := hwf.2.2.1
  have h200 := (CI_v h).2.2.2.2.1
  have hg := CI_g h
  unfold a_since at hQ
  rw [zWE]
  simp -implicitDefEqProofs only [zx_iconst, zx_bipush, zx_sipush, zx_lconst, zx_ldc, zx_ldcS, zx_ldc_w, zx_ldc2_w, zx_iload, zx_lload, zx_aload, zx_istore_n, zx_istore, zx_lstore_n, zx_lstore, zx_astore_n, zx_astore, zx_iinc, zx_iadd, zx_isub, zx_imul, zx_iand, zx_ior, zx_ixor, zx_ishl, zx_ishr, zx_iushr, zx_idiv, zx_irem, zx_ineg, zx_ladd, zx_lsub, zx_land, zx_lor, zx_lxor, zx_lneg, zx_lshl, zx_lushr, zx_i2l, zx_l2i, zx_lcmp, zx_dup, zx_dup2, zx_pop, zx_goto, zx_if_eq, zx_if_ne, zx_if_lt, zx_if_ge, zx_if_gt, zx_if_le, zx_icmp_eq, zx_icmp_ne, zx_icmp_lt, zx_icmp_ge, zx_icmp_gt, zx_icmp_le, zx_getfield, zx_putfield, zx_iaload, zx_laload, zx_aaload, zx_iastore, zx_lastore, zx_arraylength, zx_ireturn, zx_lreturn, zx_areturn, zx_return, zx_athrow, zx_static0, zx_static1, zx_virt1, zx_static2, zx_virt2, zx_static3, zx_virt3, zx_static4, zx_virt4, zx_static5, zx_virt5, zx_static6, zx_virt6, zx_static7, zx_virt7, zx_cpI, zx_cpL, ↓cpI, ↓cpL, zx_slen, zx_schr, zx_tsw, zx_spec3, new_X, zx_new1, zrun_nil, zrun_cons, ↓zgi_h, ↓zgi_n, ↓zgl_h, ↓zgl_n, ↓zgr_h, ↓zgr_n, zset1, zset2, zins_nil, zins_c, f3, cat_i, cat_l, cat_r, List.filter_cons, List.filter_nil, Bool.false_eq_true, l_of0, lv_args, Nat.reduceBEq, Nat.reduceAdd, Nat.reduceLeDiff, Nat.reduceLT, Bool.not_true, Bool.not_false, Bool.and_true, Bool.true_and, Bool.and_false, Bool.false_and, Nat.reduceEqDiff, reduceIte, List.contains_cons, List.contains_nil, Bool.or_false, Bool.or_true, Bool.false_or, Bool.true_or, Fin.isValue, Fin.val_zero, Fin.val_one, Fin.val_two, Fin.reduceFinMk, Option.toList_some, Option.toList_none, List.nil_append, List.cons_append, zwt_nil, zwt_i, zwt_l, zwt_r, zthr_nil, List.isEmpty_nil, zcE, ↓ar_k, lgc0, true_and, and_true, true_implies, implies_true, false_implies, forall_const, i_len, ob_0, ob_1, ↓bI_01, bI_0, not_true_eq_false, not_false_eq_true, Bool.not_eq_false, Bool.not_eq_true, ia_add, ia_sub, ia_mul, ia_neg, ↓ldI, ↓ldL, zaI_c, zaL_c, ↓zlen_I, ↓zlen_L, ↓stI, ↓stL, gD_sI, gN_sI, gI_sI, gJ_sI, gR_sI, gA_sI, gB_sI, gT_sI, gD_sJ, gN_sJ, gI_sJ, gJ_sJ, gR_sJ, gA_sJ, gB_sJ, gT_sJ, gD_sR, gN_sR, gI_sR, gJ_sR, gR_sR, gA_sR, gB_sR, gT_sR, gD_sA, gN_sA, gI_sA, gJ_sA, gR_sA, gA_sA, gB_sA, gT_sA, gD_sB, gN_sB, gI_sB, gJ_sB, gR_sB, gA_sB, gB_sB, gT_sB, zx_il0, zx_il1, zx_il2, zx_il3, zx_ll0, zx_ll1, zx_ll2, zx_ll3, zx_al0, zx_al1, zx_al2, zx_al3, e_has, e_bA, e_mn, e_mx, e_pcI, e_pcL, e_low, zml_144, zg144_0, zb144_0, zb144_18, zg144_79, zb144_79, zg144_80, zb144_80, zg144_86, zb144_86, zg144_92, zb144_92, zmc_144, zms_144, zow_144, zhd_144, zmc_80, zms_80, zow_80, zhd_80, zmc_21, zms_21, zow_21, zhd_21, zmc_53, zms_53, zow_53, zhd_53, zmc_27, zms_27, zow_27, zhd_27, ↓gf_0_0, ↓gf_10_3, ↓gf_10_6, ↓gf_10_7, ↓gf_6_2, ↓gv_0, ↓gv_10, show ztg 27 65 = 92 from rfl, show ztg 72 7 = 79 from rfl, show ztg 76 4 = 80 from rfl, show ztg 80 6 = 86 from rfl, show ztg 89 (-71) = 18 from rfl, LMain_d lM, LMain_d17 lM, LMain_n17 lM, LMain_d46 lM, LMain_r0 lM, LMain_r5 lM, LMain_r6 lM, LMain_r7 lM, LMain_r8 lM, LMain_r9 lM, LMain_r10 lM, LMain_r11 lM, LMain_r12 lM, LMain_r13 lM, CI_3 h, e_nC h hx, e_nC h hy, e_nT h hw]
  by_cases c0 : 0 ≤ x ∧ x < (nC (xT s) : Int)
  rotate_left 1
  · try rw [if_neg c0]
    rw [if_neg c0] at hQ
    exact hQ _ (fQ_nX hg) (CI_nX h)
  try rw [if_pos c0]
  rw [if_pos c0] at hQ
  by_cases c1 : 0 ≤ y ∧ y < (nC (xT s) : Int)
  rotate_left 1
  · try rw [if_neg c1]
    rw [if_neg c1] at hQ
    exact hQ _ (fQ_nX hg) (CI_nX h)
  try rw [if_pos c1]
  rw [if_pos c1] at hQ
  by_cases c2 : 0 ≤ w ∧ w ≤ (xn s : Int)
  rotate_left 1
  · try rw [if_neg c2]
    rw [if_neg c2] at hQ
    exact hQ _ (fQ_nX hg) (CI_nX h)
  try rw [if_pos c2]
  rw [if_pos c2] at hQ
  obtain ⟨x, rfl⟩ : ∃ k : Nat, x = (k : Int) := ⟨x.toNat, by omega⟩
  obtain ⟨y, rfl⟩ : ∃ k : Nat, y = (k : Int) := ⟨y.toNat, by omega⟩
  simp only [Int.toNat_natCast] at *
  obtain ⟨w, rfl⟩ : ∃ k : Nat, w = (k : Int) := ⟨w.toNat, by omega⟩
  try simp -implicitDefEqProofs only [zx_iconst, zx_bipush, zx_sipush, zx_lconst, zx_ldc, zx_ldcS, zx_ldc_w, zx_ldc2_w, zx_iload, zx_lload, zx_aload, zx_istore_n, zx_istore, zx_lstore_n, zx_lstore, zx_astore_n, zx_astore, zx_iinc, zx_iadd, zx_isub, zx_imul, zx_iand, zx_ior, zx_ixor, zx_ishl, zx_ishr, zx_iushr, zx_idiv, zx_irem, zx_ineg, zx_ladd, zx_lsub, zx_land, zx_lor, zx_lxor, zx_lneg, zx_lshl, zx_lushr, zx_i2l, zx_l2i, zx_lcmp, zx_dup, zx_dup2, zx_pop, zx_goto, zx_if_eq, zx_if_ne, zx_if_lt, zx_if_ge, zx_if_gt, zx_if_le, zx_icmp_eq, zx_icmp_ne, zx_icmp_lt, zx_icmp_ge, zx_icmp_gt, zx_icmp_le, zx_getfield, zx_putfield, zx_iaload, zx_laload, zx_aaload, zx_iastore, zx_lastore, zx_arraylength, zx_ireturn, zx_lreturn, zx_areturn, zx_return, zx_athrow, zx_static0, zx_static1, zx_virt1, zx_static2, zx_virt2, zx_static3, zx_virt3, zx_static4, zx_virt4, zx_static5, zx_virt5, zx_static6, zx_virt6, zx_static7, zx_virt7, zx_cpI, zx_cpL, ↓cpI, ↓cpL, zx_slen, zx_schr, zx_tsw, zx_spec3, new_X, zx_new1, zrun_nil, zrun_cons, ↓zgi_h, ↓zgi_n, ↓zgl_h, ↓zgl_n, ↓zgr_h, ↓zgr_n, zset1, zset2, zins_nil, zins_c, f3, cat_i, cat_l, cat_r, List.filter_cons, List.filter_nil, Bool.false_eq_true, l_of0, lv_args, Nat.reduceBEq, Nat.reduceAdd, Nat.reduceLeDiff, Nat.reduceLT, Bool.not_true, Bool.not_false, Bool.and_true, Bool.true_and, Bool.and_false, Bool.false_and, Nat.reduceEqDiff, reduceIte, List.contains_cons, List.contains_nil, Bool.or_false, Bool.or_true, Bool.false_or, Bool.true_or, Fin.isValue, Fin.val_zero, Fin.val_one, Fin.val_two, Fin.reduceFinMk, Option.toList_some, Option.toList_none, List.nil_append, List.cons_append, zwt_nil, zwt_i, zwt_l, zwt_r, zthr_nil, List.isEmpty_nil, zcE, ↓ar_k, lgc0, true_and, and_true, true_implies, implies_true, false_implies, forall_const, i_len, ob_0, ob_1, ↓bI_01, bI_0, not_true_eq_false, not_false_eq_true, Bool.not_eq_false, Bool.not_eq_true, ia_add, ia_sub, ia_mul, ia_neg, ↓ldI, ↓ldL, zaI_c, zaL_c, ↓zlen_I, ↓zlen_L, ↓stI, ↓stL, gD_sI, gN_sI, gI_sI, gJ_sI, gR_sI, gA_sI, gB_sI, gT_sI, gD_sJ, gN_sJ, gI_sJ, gJ_sJ, gR_sJ, gA_sJ, gB_sJ, gT_sJ, gD_sR, gN_sR, gI_sR, gJ_sR, gR_sR, gA_sR, gB_sR, gT_sR, gD_sA, gN_sA, gI_sA, gJ_sA, gR_sA, gA_sA, gB_sA, gT_sA, gD_sB, gN_sB, gI_sB, gJ_sB, gR_sB, gA_sB, gB_sB, gT_sB, zx_il0, zx_il1, zx_il2, zx_il3, zx_ll0, zx_ll1, zx_ll2, zx_ll3, zx_al0, zx_al1, zx_al2, zx_al3, e_has, e_bA, e_mn, e_mx, e_pcI, e_pcL, e_low, zml_144, zg144_0, zb144_0, zb144_18, zg144_79, zb144_79, zg144_80, zb144_80, zg144_86, zb144_86, zg144_92, zb144_92, zmc_144, zms_144, zow_144, zhd_144, zmc_80, zms_80, zow_80, zhd_80, zmc_21, zms_21, zow_21, zhd_21, zmc_53, zms_53, zow_53, zhd_53, zmc_27, zms_27, zow_27, zhd_27, ↓gf_0_0, ↓gf_10_3, ↓gf_10_6, ↓gf_10_7, ↓gf_6_2, ↓gv_0, ↓gv_10, show ztg 27 65 = 92 from rfl, show ztg 72 7 = 79 from rfl, show ztg 76 4 = 80 from rfl, show ztg 80 6 = 86 from rfl, show ztg 89 (-71) = 18 from rfl]
  have key : ∀ k : Nat, k ≤ xn s + 1 → w ≤ k → (∀ j, w ≤ j → j < k → rcB (xT s) (nx (xT s) (xH s j)) x y ≠ b) → ∀ τ, fQ σ τ → CI τ t s → zfp zP (zcall zP 144) 144 Q 18 [(0, .ref 16), (1, .int (Int32.ofInt x)), (2, .int (Int32.ofInt y)), (4, .int (bI b)), (5, .int (Int32.ofInt k))] [] (hOf τ) 3 18 := by
    refine bk _ ?_
    intro k hk ih hwk hno τ f hC
    have lM2 := LA_Main (CI_A hC)
    rw [zg144_18]
    simp -implicitDefEqProofs only [zx_iconst, zx_bipush, zx_sipush, zx_lconst, zx_ldc, zx_ldcS, zx_ldc_w, zx_ldc2_w, zx_iload, zx_lload, zx_aload, zx_istore_n, zx_istore, zx_lstore_n, zx_lstore, zx_astore_n, zx_astore, zx_iinc, zx_iadd, zx_isub, zx_imul, zx_iand, zx_ior, zx_ixor, zx_ishl, zx_ishr, zx_iushr, zx_idiv, zx_irem, zx_ineg, zx_ladd, zx_lsub, zx_land, zx_lor, zx_lxor, zx_lneg, zx_lshl, zx_lushr, zx_i2l, zx_l2i, zx_lcmp, zx_dup, zx_dup2, zx_pop, zx_goto, zx_if_eq, zx_if_ne, zx_if_lt, zx_if_ge, zx_if_gt, zx_if_le, zx_icmp_eq, zx_icmp_ne, zx_icmp_lt, zx_icmp_ge, zx_icmp_gt, zx_icmp_le, zx_getfield, zx_putfield, zx_iaload, zx_laload, zx_aaload, zx_iastore, zx_lastore, zx_arraylength, zx_ireturn, zx_lreturn, zx_areturn, zx_return, zx_athrow, zx_static0, zx_static1, zx_virt1, zx_static2, zx_virt2, zx_static3, zx_virt3, zx_static4, zx_virt4, zx_static5, zx_virt5, zx_static6, zx_virt6, zx_static7, zx_virt7, zx_cpI, zx_cpL, ↓cpI, ↓cpL, zx_slen, zx_schr, zx_tsw, zx_spec3, new_X, zx_new1, zrun_nil, zrun_cons, ↓zgi_h, ↓zgi_n, ↓zgl_h, ↓zgl_n, ↓zgr_h, ↓zgr_n, zset1, zset2, zins_nil, zins_c, f3, cat_i, cat_l, cat_r, List.filter_cons, List.filter_nil, Bool.false_eq_true, l_of0, lv_args, Nat.reduceBEq, Nat.reduceAdd, Nat.reduceLeDiff, Nat.reduceLT, Bool.not_true, Bool.not_false, Bool.and_true, Bool.true_and, Bool.and_false, Bool.false_and, Nat.reduceEqDiff, reduceIte, List.contains_cons, List.contains_nil, Bool.or_false, Bool.or_true, Bool.false_or, Bool.true_or, Fin.isValue, Fin.val_zero, Fin.val_one, Fin.val_two, Fin.reduceFinMk, Option.toList_some, Option.toList_none, List.nil_append, List.cons_append, zwt_nil, zwt_i, zwt_l, zwt_r, zthr_nil, List.isEmpty_nil, zcE, ↓ar_k, lgc0, true_and, and_true, true_implies, implies_true, false_implies, forall_const, i_len, ob_0, ob_1, ↓bI_01, bI_0, not_true_eq_false, not_false_eq_true, Bool.not_eq_false, Bool.not_eq_true, ia_add, ia_sub, ia_mul, ia_neg, ↓ldI, ↓ldL, zaI_c, zaL_c, ↓zlen_I, ↓zlen_L, ↓stI, ↓stL, gD_sI, gN_sI, gI_sI, gJ_sI, gR_sI, gA_sI, gB_sI, gT_sI, gD_sJ, gN_sJ, gI_sJ, gJ_sJ, gR_sJ, gA_sJ, gB_sJ, gT_sJ, gD_sR, gN_sR, gI_sR, gJ_sR, gR_sR, gA_sR, gB_sR, gT_sR, gD_sA, gN_sA, gI_sA, gJ_sA, gR_sA, gA_sA, gB_sA, gT_sA, gD_sB, gN_sB, gI_sB, gJ_sB, gR_sB, gA_sB, gB_sB, gT_sB, zx_il0, zx_il1, zx_il2, zx_il3, zx_ll0, zx_ll1, zx_ll2, zx_ll3, zx_al0, zx_al1, zx_al2, zx_al3, e_has, e_bA, e_mn, e_mx, e_pcI, e_pcL, e_low, zml_144, zg144_0, zb144_0, zb144_18, zg144_79, zb144_79, zb144_80, zg144_86, zb144_86, zg144_92, zb144_92, zmc_144, zms_144, zow_144, zhd_144, zmc_80, zms_80, zow_80, zhd_80, zmc_21, zms_21, zow_21, zhd_21, zmc_53, zms_53, zow_53, zhd_53, zmc_27, zms_27, zow_27, zhd_27, ↓gf_0_0, ↓gf_10_3, ↓gf_10_6, ↓gf_10_7, ↓gf_6_2, ↓gv_0, ↓gv_10, show ztg 27 65 = 92 from rfl, show ztg 72 7 = 79 from rfl, show ztg 76 4 = 80 from rfl, show ztg 80 6 = 86 from rfl, show ztg 89 (-71) = 18 from rfl, LMain_d lM2, LMain_d17 lM2, LMain_n17 lM2, LMain_d46 lM2, LMain_r0 lM2, LMain_r5 lM2, LMain_r6 lM2, LMain_r7 lM2, LMain_r8 lM2, LMain_r9 lM2, LMain_r10 lM2, LMain_r11 lM2, LMain_r12 lM2, LMain_r13 lM2, CI_3 hC, LChanges_d (LA_Changes (CI_A hC)), LChanges_r1 (LA_Changes (CI_A hC)), LChanges_k1 (LA_Changes (CI_A hC)), LChanges_n1 (LA_Changes (CI_A hC)), LChanges_r2 (LA_Changes (CI_A hC)), LChanges_k2 (LA_Changes (CI_A hC)), LChanges_n2 (LA_Changes (CI_A hC)), LChanges_r3 (LA_Changes (CI_A hC)), LChanges_k3 (LA_Changes (CI_A hC)), LChanges_n3 (LA_Changes (CI_A hC)), CI_n hC]
    try simp (disch := omega) only [ii_lt, ii_le, ii_eq, ii_eq0, ii_lt0, ii_0lt, ii_le0, ii_0le, i_inT, i_natN, i_nat, ia_div, ia_rem, hs_ofI, i_1shl, i_or, i_bit, true_and, and_true, not_true_eq_false, not_false_eq_true, true_implies, false_implies, implies_true, Int.reduceLT, Int.reduceLE, Int.reduceEq, Int.reduceNeg, Int.toNat_natCast, Int.reduceToNat, Nat.reduceLeDiff, Nat.reduceAdd, tn_2, tn_2p, tn_48, tn_48r, tn_3, tn_3p, tn_3q, tn_p1, tn_d2, tn_12, ia_add, ia_sub, ia_mul]
    refine ⟨fun c7 => ?_, fun c7 => ?_⟩
    · have this := hQ τ f hC
      rw [show lw (fun k => (w : Int) ≤ (k : Int) ∧ k ≤ xn s ∧ rcB (xT s) (nx (xT s) (xH s k)) x y = b) = none from lw_none.2 (fun j ⟨z1, z2, z3⟩ => hno j (by omega) (by omega) z3)] at this
      exact this
    · refine u_brg hC (m := k) (by omega) (fun τ2 f2 hC2 hq2 => ?_)
      have lR2 := LA_Rules (CI_A hC2)
      have fq2 := fQ_trans f f2
      simp -implicitDefEqProofs only [zx_iconst, zx_bipush, zx_sipush, zx_lconst, zx_ldc, zx_ldcS, zx_ldc_w, zx_ldc2_w, zx_iload, zx_lload, zx_aload, zx_istore_n, zx_istore, zx_lstore_n, zx_lstore, zx_astore_n, zx_astore, zx_iinc, zx_iadd, zx_isub, zx_imul, zx_iand, zx_ior, zx_ixor, zx_ishl, zx_ishr, zx_iushr, zx_idiv, zx_irem, zx_ineg, zx_ladd, zx_lsub, zx_land, zx_lor, zx_lxor, zx_lneg, zx_lshl, zx_lushr, zx_i2l, zx_l2i, zx_lcmp, zx_dup, zx_dup2, zx_pop, zx_goto, zx_if_eq, zx_if_ne, zx_if_lt, zx_if_ge, zx_if_gt, zx_if_le, zx_icmp_eq, zx_icmp_ne, zx_icmp_lt, zx_icmp_ge, zx_icmp_gt, zx_icmp_le, zx_getfield, zx_putfield, zx_iaload, zx_laload, zx_aaload, zx_iastore, zx_lastore, zx_arraylength, zx_ireturn, zx_lreturn, zx_areturn, zx_return, zx_athrow, zx_static0, zx_static1, zx_virt1, zx_static2, zx_virt2, zx_static3, zx_virt3, zx_static4, zx_virt4, zx_static5, zx_virt5, zx_static6, zx_virt6, zx_static7, zx_virt7, zx_cpI, zx_cpL, ↓cpI, ↓cpL, zx_slen, zx_schr, zx_tsw, zx_spec3, new_X, zx_new1, zrun_nil, zrun_cons, ↓zgi_h, ↓zgi_n, ↓zgl_h, ↓zgl_n, ↓zgr_h, ↓zgr_n, zset1, zset2, zins_nil, zins_c, f3, cat_i, cat_l, cat_r, List.filter_cons, List.filter_nil, Bool.false_eq_true, l_of0, lv_args, Nat.reduceBEq, Nat.reduceAdd, Nat.reduceLeDiff, Nat.reduceLT, Bool.not_true, Bool.not_false, Bool.and_true, Bool.true_and, Bool.and_false, Bool.false_and, Nat.reduceEqDiff, reduceIte, List.contains_cons, List.contains_nil, Bool.or_false, Bool.or_true, Bool.false_or, Bool.true_or, Fin.isValue, Fin.val_zero, Fin.val_one, Fin.val_two, Fin.reduceFinMk, Option.toList_some, Option.toList_none, List.nil_append, List.cons_append, zwt_nil, zwt_i, zwt_l, zwt_r, zthr_nil, List.isEmpty_nil, zcE, ↓ar_k, lgc0, true_and, and_true, true_implies, implies_true, false_implies, forall_const, i_len, ob_0, ob_1, ↓bI_01, bI_0, not_true_eq_false, not_false_eq_true, Bool.not_eq_false, Bool.not_eq_true, ia_add, ia_sub, ia_mul, ia_neg, ↓ldI, ↓ldL, zaI_c, zaL_c, ↓zlen_I, ↓zlen_L, ↓stI, ↓stL, gD_sI, gN_sI, gI_sI, gJ_sI, gR_sI, gA_sI, gB_sI, gT_sI, gD_sJ, gN_sJ, gI_sJ, gJ_sJ, gR_sJ, gA_sJ, gB_sJ, gT_sJ, gD_sR, gN_sR, gI_sR, gJ_sR, gR_sR, gA_sR, gB_sR, gT_sR, gD_sA, gN_sA, gI_sA, gJ_sA, gR_sA, gA_sA, gB_sA, gT_sA, gD_sB, gN_sB, gI_sB, gJ_sB, gR_sB, gA_sB, gB_sB, gT_sB, zx_il0, zx_il1, zx_il2, zx_il3, zx_ll0, zx_ll1, zx_ll2, zx_ll3, zx_al0, zx_al1, zx_al2, zx_al3, e_has, e_bA, e_mn, e_mx, e_pcI, e_pcL, e_low, zml_144, zg144_0, zb144_0, zb144_18, zg144_79, zb144_79, zb144_80, zg144_86, zb144_86, zg144_92, zb144_92, zmc_144, zms_144, zow_144, zhd_144, zmc_80, zms_80, zow_80, zhd_80, zmc_21, zms_21, zow_21, zhd_21, zmc_53, zms_53, zow_53, zhd_53, zmc_27, zms_27, zow_27, zhd_27, ↓gf_0_0, ↓gf_10_3, ↓gf_10_6, ↓gf_10_7, ↓gf_6_2, ↓gv_0, ↓gv_10, show ztg 27 65 = 92 from rfl, show ztg 72 7 = 79 from rfl, show ztg 76 4 = 80 from rfl, show ztg 80 6 = 86 from rfl, show ztg 89 (-71) = 18 from rfl, LMain_d (LA_Main (CI_A hC2)), LMain_d17 (LA_Main (CI_A hC2)), LMain_n17 (LA_Main (CI_A hC2)), LMain_d46 (LA_Main (CI_A hC2)), LMain_r0 (LA_Main (CI_A hC2)), LMain_r5 (LA_Main (CI_A hC2)), LMain_r6 (LA_Main (CI_A hC2)), LMain_r7 (LA_Main (CI_A hC2)), LMain_r8 (LA_Main (CI_A hC2)), LMain_r9 (LA_Main (CI_A hC2)), LMain_r10 (LA_Main (CI_A hC2)), LMain_r11 (LA_Main (CI_A hC2)), LMain_r12 (LA_Main (CI_A hC2)), LMain_r13 (LA_Main (CI_A hC2)), CI_3 hC2, LRules_d lR2, LRules_r0 lR2, LRules_k0 lR2, LRules_n0 lR2, LRules_r1 lR2, LRules_k1 lR2, LRules_n1 lR2, LRules_r2 lR2, LRules_k2 lR2, LRules_n2 lR2]
      refine u_from (QC_T hq2) hwf (QC_S hq2) (LRules_k2 lR2) (LRules_n2 lR2) (QC_N hq2) (by omega) ?_
      have m1 := ms_16 (T := xT s) (p := rcB (xT s) (nx (xT s) (xH s k)) x) h16
      have t80 : ∀ z : Int32, z = bI b → zfp zP (zcall zP 144) 144 Q 80 [(0, .ref 16), (1, .int (Int32.ofInt x)), (2, .int (Int32.ofInt y)), (4, .int (bI b)), (5, .int (Int32.ofInt k))] [.int z, .int (bI (rcB (xT s) (nx (xT s) (xH s k)) x y))] (hOf τ2) 3 18 := by
        intro z hz
        rw [zg144_80]
        simp -implicitDefEqProofs only [zx_iconst, zx_bipush, zx_sipush, zx_lconst, zx_ldc, zx_ldcS, zx_ldc_w, zx_ldc2_w, zx_iload, zx_lload, zx_aload, zx_istore_n, zx_istore, zx_lstore_n, zx_lstore, zx_astore_n, zx_astore, zx_iinc, zx_iadd, zx_isub, zx_imul, zx_iand, zx_ior, zx_ixor, zx_ishl, zx_ishr, zx_iushr, zx_idiv, zx_irem, zx_ineg, zx_ladd, zx_lsub, zx_land, zx_lor, zx_lxor, zx_lneg, zx_lshl, zx_lushr, zx_i2l, zx_l2i, zx_lcmp, zx_dup, zx_dup2, zx_pop, zx_goto, zx_if_eq, zx_if_ne, zx_if_lt, zx_if_ge, zx_if_gt, zx_if_le, zx_icmp_eq, zx_icmp_ne, zx_icmp_lt, zx_icmp_ge, zx_icmp_gt, zx_icmp_le, zx_getfield, zx_putfield, zx_iaload, zx_laload, zx_aaload, zx_iastore, zx_lastore, zx_arraylength, zx_ireturn, zx_lreturn, zx_areturn, zx_return, zx_athrow, zx_static0, zx_static1, zx_virt1, zx_static2, zx_virt2, zx_static3, zx_virt3, zx_static4, zx_virt4, zx_static5, zx_virt5, zx_static6, zx_virt6, zx_static7, zx_virt7, zx_cpI, zx_cpL, ↓cpI, ↓cpL, zx_slen, zx_schr, zx_tsw, zx_spec3, new_X, zx_new1, zrun_nil, zrun_cons, ↓zgi_h, ↓zgi_n, ↓zgl_h, ↓zgl_n, ↓zgr_h, ↓zgr_n, zset1, zset2, zins_nil, zins_c, f3, cat_i, cat_l, cat_r, List.filter_cons, List.filter_nil, Bool.false_eq_true, l_of0, lv_args, Nat.reduceBEq, Nat.reduceAdd, Nat.reduceLeDiff, Nat.reduceLT, Bool.not_true, Bool.not_false, Bool.and_true, Bool.true_and, Bool.and_false, Bool.false_and, Nat.reduceEqDiff, reduceIte, List.contains_cons, List.contains_nil, Bool.or_false, Bool.or_true, Bool.false_or, Bool.true_or, Fin.isValue, Fin.val_zero, Fin.val_one, Fin.val_two, Fin.reduceFinMk, Option.toList_some, Option.toList_none, List.nil_append, List.cons_append, zwt_nil, zwt_i, zwt_l, zwt_r, zthr_nil, List.isEmpty_nil, zcE, ↓ar_k, lgc0, true_and, and_true, true_implies, implies_true, false_implies, forall_const, i_len, ob_0, ob_1, ↓bI_01, bI_0, not_true_eq_false, not_false_eq_true, Bool.not_eq_false, Bool.not_eq_true, ia_add, ia_sub, ia_mul, ia_neg, ↓ldI, ↓ldL, zaI_c, zaL_c, ↓zlen_I, ↓zlen_L, ↓stI, ↓stL, gD_sI, gN_sI, gI_sI, gJ_sI, gR_sI, gA_sI, gB_sI, gT_sI, gD_sJ, gN_sJ, gI_sJ, gJ_sJ, gR_sJ, gA_sJ, gB_sJ, gT_sJ, gD_sR, gN_sR, gI_sR, gJ_sR, gR_sR, gA_sR, gB_sR, gT_sR, gD_sA, gN_sA, gI_sA, gJ_sA, gR_sA, gA_sA, gB_sA, gT_sA, gD_sB, gN_sB, gI_sB, gJ_sB, gR_sB, gA_sB, gB_sB, gT_sB, zx_il0, zx_il1, zx_il2, zx_il3, zx_ll0, zx_ll1, zx_ll2, zx_ll3, zx_al0, zx_al1, zx_al2, zx_al3, e_has, e_bA, e_mn, e_mx, e_pcI, e_pcL, e_low, zml_144, zg144_0, zb144_0, zb144_18, zg144_79, zb144_79, zg144_80, zb144_80, zg144_86, zb144_86, zg144_92, zb144_92, zmc_144, zms_144, zow_144, zhd_144, zmc_80, zms_80, zow_80, zhd_80, zmc_21, zms_21, zow_21, zhd_21, zmc_53, zms_53, zow_53, zhd_53, zmc_27, zms_27, zow_27, zhd_27, ↓gf_0_0, ↓gf_10_3, ↓gf_10_6, ↓gf_10_7, ↓gf_6_2, ↓gv_0, ↓gv_10, show ztg 27 65 = 92 from rfl, show ztg 72 7 = 79 from rfl, show ztg 76 4 = 80 from rfl, show ztg 80 6 = 86 from rfl, show ztg 89 (-71) = 18 from rfl]
        rw [hz]
        refine ⟨fun c8 => ?_, fun c8 => ?_⟩
        · have := ih (by omega) (by omega) (fun j j1 j2 => by
            by_cases e : j = k
            · rw [e]
              intro z2
              exact c8 (by rw [z2])
            · exact hno j j1 (by omega)) τ2 fq2 hC2
          first | exact this | exact zjf rfl (this)
        · have e : rcB (xT s) (nx (xT s) (xH s k)) x y = b := by
            cases e1 : rcB (xT s) (nx (xT s) (xH s k)) x y <;> cases e2 : b <;> first | rfl | (rw [e1, e2] at c8; exact absurd c8 (by decide))
          have this := hQ τ2 fq2 hC2
          rw [show lw (fun k => (w : Int) ≤ (k : Int) ∧ k ≤ xn s ∧ rcB (xT s) (nx (xT s) (xH s k)) x y = b) = some k from lw_some.2 ⟨⟨by omega, by omega, e⟩, fun j hj z => hno j (by omega) hj z.2.2⟩] at this
          exact this
      simp -implicitDefEqProofs only [zx_iconst, zx_bipush, zx_sipush, zx_lconst, zx_ldc, zx_ldcS, zx_ldc_w, zx_ldc2_w, zx_iload, zx_lload, zx_aload, zx_istore_n, zx_istore, zx_lstore_n, zx_lstore, zx_astore_n, zx_astore, zx_iinc, zx_iadd, zx_isub, zx_imul, zx_iand, zx_ior, zx_ixor, zx_ishl, zx_ishr, zx_iushr, zx_idiv, zx_irem, zx_ineg, zx_ladd, zx_lsub, zx_land, zx_lor, zx_lxor, zx_lneg, zx_lshl, zx_lushr, zx_i2l, zx_l2i, zx_lcmp, zx_dup, zx_dup2, zx_pop, zx_goto, zx_if_eq, zx_if_ne, zx_if_lt, zx_if_ge, zx_if_gt, zx_if_le, zx_icmp_eq, zx_icmp_ne, zx_icmp_lt, zx_icmp_ge, zx_icmp_gt, zx_icmp_le, zx_getfield, zx_putfield, zx_iaload, zx_laload, zx_aaload, zx_iastore, zx_lastore, zx_arraylength, zx_ireturn, zx_lreturn, zx_areturn, zx_return, zx_athrow, zx_static0, zx_static1, zx_virt1, zx_static2, zx_virt2, zx_static3, zx_virt3, zx_static4, zx_virt4, zx_static5, zx_virt5, zx_static6, zx_virt6, zx_static7, zx_virt7, zx_cpI, zx_cpL, ↓cpI, ↓cpL, zx_slen, zx_schr, zx_tsw, zx_spec3, new_X, zx_new1, zrun_nil, zrun_cons, ↓zgi_h, ↓zgi_n, ↓zgl_h, ↓zgl_n, ↓zgr_h, ↓zgr_n, zset1, zset2, zins_nil, zins_c, f3, cat_i, cat_l, cat_r, List.filter_cons, List.filter_nil, Bool.false_eq_true, l_of0, lv_args, Nat.reduceBEq, Nat.reduceAdd, Nat.reduceLeDiff, Nat.reduceLT, Bool.not_true, Bool.not_false, Bool.and_true, Bool.true_and, Bool.and_false, Bool.false_and, Nat.reduceEqDiff, reduceIte, List.contains_cons, List.contains_nil, Bool.or_false, Bool.or_true, Bool.false_or, Bool.true_or, Fin.isValue, Fin.val_zero, Fin.val_one, Fin.val_two, Fin.reduceFinMk, Option.toList_some, Option.toList_none, List.nil_append, List.cons_append, zwt_nil, zwt_i, zwt_l, zwt_r, zthr_nil, List.isEmpty_nil, zcE, ↓ar_k, lgc0, true_and, and_true, true_implies, implies_true, false_implies, forall_const, i_len, ob_0, ob_1, ↓bI_01, bI_0, not_true_eq_false, not_false_eq_true, Bool.not_eq_false, Bool.not_eq_true, ia_add, ia_sub, ia_mul, ia_neg, ↓ldI, ↓ldL, zaI_c, zaL_c, ↓zlen_I, ↓zlen_L, ↓stI, ↓stL, gD_sI, gN_sI, gI_sI, gJ_sI, gR_sI, gA_sI, gB_sI, gT_sI, gD_sJ, gN_sJ, gI_sJ, gJ_sJ, gR_sJ, gA_sJ, gB_sJ, gT_sJ, gD_sR, gN_sR, gI_sR, gJ_sR, gR_sR, gA_sR, gB_sR, gT_sR, gD_sA, gN_sA, gI_sA, gJ_sA, gR_sA, gA_sA, gB_sA, gT_sA, gD_sB, gN_sB, gI_sB, gJ_sB, gR_sB, gA_sB, gB_sB, gT_sB, zx_il0, zx_il1, zx_il2, zx_il3, zx_ll0, zx_ll1, zx_ll2, zx_ll3, zx_al0, zx_al1, zx_al2, zx_al3, e_has, e_bA, e_mn, e_mx, e_pcI, e_pcL, e_low, zml_144, zg144_0, zb144_0, zb144_18, zg144_79, zb144_79, zb144_80, zg144_86, zb144_86, zg144_92, zb144_92, zmc_144, zms_144, zow_144, zhd_144, zmc_80, zms_80, zow_80, zhd_80, zmc_21, zms_21, zow_21, zhd_21, zmc_53, zms_53, zow_53, zhd_53, zmc_27, zms_27, zow_27, zhd_27, ↓gf_0_0, ↓gf_10_3, ↓gf_10_6, ↓gf_10_7, ↓gf_6_2, ↓gv_0, ↓gv_10, show ztg 27 65 = 92 from rfl, show ztg 72 7 = 79 from rfl, show ztg 76 4 = 80 from rfl, show ztg 80 6 = 86 from rfl, show ztg 89 (-71) = 18 from rfl, LMain_d (LA_Main (CI_A hC2)), LMain_d17 (LA_Main (CI_A hC2)), LMain_n17 (LA_Main (CI_A hC2)), LMain_d46 (LA_Main (CI_A hC2)), LMain_r0 (LA_Main (CI_A hC2)), LMain_r5 (LA_Main (CI_A hC2)), LMain_r6 (LA_Main (CI_A hC2)), LMain_r7 (LA_Main (CI_A hC2)), LMain_r8 (LA_Main (CI_A hC2)), LMain_r9 (LA_Main (CI_A hC2)), LMain_r10 (LA_Main (CI_A hC2)), LMain_r11 (LA_Main (CI_A hC2)), LMain_r12 (LA_Main (CI_A hC2)), LMain_r13 (LA_Main (CI_A hC2))]
      try simp (disch := omega) only [ii_lt, ii_le, ii_eq, ii_eq0, ii_lt0, ii_0lt, ii_le0, ii_0le, i_inT, i_natN, i_nat, ia_div, ia_rem, hs_ofI, i_1shl, i_or, i_bit, true_and, and_true, not_true_eq_false, not_false_eq_true, true_implies, false_implies, implies_true, Int.reduceLT, Int.reduceLE, Int.reduceEq, Int.reduceNeg, Int.toNat_natCast, Int.reduceToNat, Nat.reduceLeDiff, Nat.reduceAdd, tn_2, tn_2p, tn_48, tn_48r, tn_3, tn_3p, tn_3q, tn_p1, tn_d2, tn_12, ia_add, ia_sub, ia_mul, ms_bit]
      rw [decide_eq_true (show y < nC (xT s) by omega), Bool.true_and]
      cases hb : b with
      | true =>
        rw [hb] at t80
        have := t80 (Int32.ofInt 1) rfl
        first
        | exact this
        | exact zjf rfl this
        | exact ⟨fun z => (by cases z), fun _ => zjf rfl this⟩
        | exact ⟨fun z => absurd z (by decide), fun _ => zjf rfl this⟩
      | false =>
        rw [hb] at t80
        have := t80 (Int32.ofInt 0) rfl
        first
        | exact this
        | exact zjf rfl this
        | exact ⟨fun _ => zjf rfl this, fun z => (by cases z)⟩
        | exact ⟨fun _ => zjf rfl this, fun z => absurd rfl z⟩
  have := key w (by omega) (Nat.le_refl _) (fun j j1 j2 => by omega) σ fQ_refl h
  first | exact this | exact zjf rfl (this)
