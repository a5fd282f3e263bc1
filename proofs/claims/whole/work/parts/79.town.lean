/-! A TOWN READ -/
theorem LA_R {σ τ : zS} (hD : gD τ = gD σ) (hN : gN τ = gN σ) (hR : ∀ a k, a ≠ 46 → a ≠ 16 ∨ (k ≠ 3 ∧ k ≠ 4) → gR τ a k = gR σ a k) (h : LA σ) : LA τ := by
  unfold LA LMain LTown LChanges LRules LRoutes LChoices LPost LTraffic LStory LImages at h ⊢
  rw [hD, hN]
  simp (disch := omega) only [hR]
  exact h
theorem PS_R {σ τ : zS} {p b : Nat} (hD : gD τ = gD σ) (hN : gN τ = gN σ) (hT : gT τ = gT σ) (hR : ∀ a k, a ≠ 46 → a ≠ 16 ∨ (k ≠ 3 ∧ k ≠ 4) → gR τ a k = gR σ a k) (h : PS σ p b) : PS τ p b := by
  unfold PS LPost at h ⊢
  rw [hD, hN, hT]
  simp (disch := omega) only [hR]
  exact h
noncomputable def s_town (s : Ab) (n : Nat) : Ab := match txt (xF s) n 61 0 T0 r0 0 with
  | .inl (_, pl) => ((xF s, 0, (pl : Int)), s.2)
  | .inr (T, r) => ((xF s, 0, -1), T, (fun _ => r), 0, (xU s, 0), 0, xi0 s, xi1 s, xi2 s)
noncomputable def a_town (s : Ab) (n : Nat) : Int := match txt (xF s) n 61 0 T0 r0 0 with
  | .inl (k, _) => (k : Int) - 10
  | .inr (T, _) => (nC T : Int)
/-- what reading leaves: all but cells 16, 46 and the spare town -/
def fk (u : Nat) (σ τ : zS) : Prop := gD τ = gD σ ∧ gN τ = gN σ ∧ gT τ = gT σ ∧ (∀ a k, a ≠ 46 → a ≠ 16 ∨ (k ≠ 3 ∧ k ≠ 4) → gR τ a k = gR σ a k) ∧ ∀ a, a ≠ 16 → a ≠ 46 → a < u ∨ u + 14 ≤ a → sm σ τ a
theorem fk_fw {u : Nat} {σ τ : zS} (f : fk u σ τ) (hu : u = 18 ∨ u = 32) : fw 16 88 σ τ := ⟨by rw [f.2.2.1]; exact Nat.le_refl _, fun a _ h2 => f.2.2.2.2 a (by omega) (by omega) (by omega)⟩
theorem fk_fy {u : Nat} {σ τ : zS} {x : Int32} (hu : u = 18 ∨ u = 32) (f : fy u (sR (sI σ 16 1 x) 46 2 17) τ) : fk u σ τ := by
  refine ⟨f.1, f.2.1, f.2.2.2.1, fun a k h1 h2 => ?_, fun a h1 h2 h3 => ?_⟩
  · rw [f.2.2.1, gR_sR, if_neg (by omega), gR_sI]
  · obtain ⟨g1, g2, g3, g4⟩ := f.2.2.2.2 a (by omega)
    refine ⟨by rw [f.1]; rfl, by rw [f.2.1]; rfl, ?_, by rw [g2]; rfl, ?_, by rw [g3]; rfl, by rw [g4]; rfl⟩
    · rw [g1, gI_sR]
      funext k
      rw [gI_sI, if_neg (by omega)]
    · rw [f.2.2.1]
      funext k
      rw [gR_sR, if_neg (by omega), gR_sI]
theorem CI_fault {σ τ : zS} {t u : Nat} {s : Ab} {pl : Int} (h : CI σ t s) (hu : u = 50 - t) (f : fk u σ τ) (r3 : gR τ 16 3 = t) (r4 : gR τ 16 4 = 50 - t) (n1 : gI τ 16 1 = Int32.ofInt 0) (n2 : gI τ 16 2 = Int32.ofInt pl) : CI τ t ((xF s, 0, pl), s.2) := by
  have ht := CI_t h
  obtain ⟨p, b, hp⟩ := CI_p h
  obtain ⟨w1, w2, w3, w4⟩ := CI_v h
  have e : ∀ a, a ≠ 16 → a ≠ 46 → a < u ∨ u + 14 ≤ a → sm σ τ a := f.2.2.2.2
  refine ⟨⟨Nat.zero_le _, fun j hj => absurd hj (Nat.not_lt_zero _), trivial, w4⟩, LA_R f.1 f.2.1 f.2.2.2.1 (CI_A h), ⟨(show CT τ t (xT s) from CT_sm (CI_T h) (fun k hk => e _ (by omega) (by omega) (by omega))), r3, r4⟩, (show CS τ t (xT s) from CS_sm (CI_S h) (fun k hk => e _ (by omega) (by omega) (by omega))), ?_, ?_, ⟨?_, ?_⟩, ?_, ⟨n1, fun j hj => absurd hj (Nat.not_lt_zero _), n2⟩, ?_, ⟨p, b, PS_R f.1 f.2.1 f.2.2.1 f.2.2.2.1 hp⟩, ?_, by rw [f.2.2.1]; exact CI_g h⟩
  · show CLf τ t (xT s)
    have := CI_l h
    unfold CLf at this ⊢
    rw [(e t (by omega) (by omega) (by omega)).2.2.1, (e (t + 13) (by omega) (by omega) (by omega)).2.2.2.2.2.1]
    exact this
  · show CH τ t (xH s)
    have := CI_H h
    unfold CH at this ⊢
    rw [(e (t + 6) (by omega) (by omega) (by omega)).2.2.2.2.2.2, (e (t + 7) (by omega) (by omega) (by omega)).2.2.2.2.2.2]
    exact this
  · rw [(e 48 (by omega) (by omega) (by omega)).2.2.1]
    exact (show gI σ 48 0 = Int32.ofInt (xn s) from CI_n h)
  · show CL τ (xH s) (xn s)
    have := CI_L h
    unfold CL at this ⊢
    rw [(e 49 (by omega) (by omega) (by omega)).2.2.2.2.2.1, (e 50 (by omega) (by omega) (by omega)).2.2.2.2.2.1, (e 51 (by omega) (by omega) (by omega)).2.2.2.2.2.1]
    exact this
  · show CU τ (xT s) (xU s) (xm s)
    have := CI_U h
    unfold CU at this ⊢
    rw [(e 79 (by omega) (by omega) (by omega)).2.2.1, (e 80 (by omega) (by omega) (by omega)).2.2.2.2.2.1]
    exact this
  · have := CI_M h
    unfold CM at this ⊢
    rw [(e 84 (by omega) (by omega) (by omega)).2.2.1, (e 85 (by omega) (by omega) (by omega)).2.2.2.2.2.1, (e 86 (by omega) (by omega) (by omega)).2.2.2.2.2.1, (e 87 (by omega) (by omega) (by omega)).2.2.2.2.2.1]
    exact this
  · rw [(e 59 (by omega) (by omega) (by omega)).2.2.1]
    exact CI_q h
theorem k_town {σ : zS} {t : Nat} {s : Ab} {n : Int} {Q : zQ} (h : CI σ t s) (hn : -2147483648 ≤ n ∧ n < 2147483648) (hQ1 : ¬ (0 ≤ n ∧ n ≤ (xN s : Int)) → ∀ τ, fw 16 88 σ τ → CI τ t s → Q (.inr (zex 0)) (hOf τ)) (hQ2 : (0 ≤ n ∧ n ≤ (xN s : Int)) → ∀ τ t2, fw 16 88 σ τ → CI τ t2 (s_town s n.toNat) → Q (.inl (some (.int (Int32.ofInt (a_town s n.toNat))))) (hOf τ)) : zW zP 195 [.ref 16, .int (Int32.ofInt n)] (hOf σ) Q := by
  have ht := CI_t h
  have hN := (CI_v h).1
  have hg := CI_g h
  have lM := LA_Main (CI_A h)
  rw [zWE]
  simp -implicitDefEqProofs only [zx_iconst, zx_bipush, zx_sipush, zx_lconst, zx_ldc, zx_ldcS, zx_ldc_w, zx_ldc2_w, zx_iload, zx_lload, zx_aload, zx_istore_n, zx_istore, zx_lstore_n, zx_lstore, zx_astore_n, zx_astore, zx_iinc, zx_iadd, zx_isub, zx_imul, zx_iand, zx_ior, zx_ixor, zx_ishl, zx_ishr, zx_iushr, zx_idiv, zx_irem, zx_ineg, zx_ladd, zx_lsub, zx_land, zx_lor, zx_lxor, zx_lneg, zx_lshl, zx_lushr, zx_i2l, zx_l2i, zx_lcmp, zx_dup, zx_dup2, zx_pop, zx_goto, zx_if_eq, zx_if_ne, zx_if_lt, zx_if_ge, zx_if_gt, zx_if_le, zx_icmp_eq, zx_icmp_ne, zx_icmp_lt, zx_icmp_ge, zx_icmp_gt, zx_icmp_le, zx_getfield, zx_putfield, zx_iaload, zx_laload, zx_aaload, zx_iastore, zx_lastore, zx_arraylength, zx_ireturn, zx_lreturn, zx_areturn, zx_return, zx_athrow, zx_static0, zx_static1, zx_virt1, zx_static2, zx_virt2, zx_static3, zx_virt3, zx_static4, zx_virt4, zx_static5, zx_virt5, zx_static6, zx_virt6, zx_static7, zx_virt7, zx_cpI, zx_cpL, ↓cpI, ↓cpL, zx_slen, zx_schr, zx_tsw, zx_spec3, new_X, zx_new1, zrun_nil, zrun_cons, ↓zgi_h, ↓zgi_n, ↓zgl_h, ↓zgl_n, ↓zgr_h, ↓zgr_n, zset1, zset2, zins_nil, zins_c, f3, cat_i, cat_l, cat_r, List.filter_cons, List.filter_nil, Bool.false_eq_true, l_of0, lv_args, Nat.reduceBEq, Nat.reduceAdd, Nat.reduceLeDiff, Nat.reduceLT, Bool.not_true, Bool.not_false, Bool.and_true, Bool.true_and, Bool.and_false, Bool.false_and, Nat.reduceEqDiff, reduceIte, List.contains_cons, List.contains_nil, Bool.or_false, Bool.or_true, Bool.false_or, Bool.true_or, Fin.isValue, Fin.val_zero, Fin.val_one, Fin.val_two, Fin.reduceFinMk, Option.toList_some, Option.toList_none, List.nil_append, List.cons_append, zwt_nil, zwt_i, zwt_l, zwt_r, zthr_nil, List.isEmpty_nil, zcE, ↓ar_k, lgc0, true_and, and_true, true_implies, implies_true, false_implies, forall_const, i_len, ob_0, ob_1, ↓bI_01, bI_0, not_true_eq_false, not_false_eq_true, Bool.not_eq_false, Bool.not_eq_true, ia_add, ia_sub, ia_mul, ia_neg, ↓ldI, ↓ldL, zaI_c, zaL_c, ↓zlen_I, ↓zlen_L, ↓stI, ↓stL, gD_sI, gN_sI, gI_sI, gJ_sI, gR_sI, gA_sI, gB_sI, gT_sI, gD_sJ, gN_sJ, gI_sJ, gJ_sJ, gR_sJ, gA_sJ, gB_sJ, gT_sJ, gD_sR, gN_sR, gI_sR, gJ_sR, gR_sR, gA_sR, gB_sR, gT_sR, gD_sA, gN_sA, gI_sA, gJ_sA, gR_sA, gA_sA, gB_sA, gT_sA, gD_sB, gN_sB, gI_sB, gJ_sB, gR_sB, gA_sB, gB_sB, gT_sB, zx_il0, zx_il1, zx_il2, zx_il3, zx_ll0, zx_ll1, zx_ll2, zx_ll3, zx_al0, zx_al1, zx_al2, zx_al3, e_has, e_bA, e_mn, e_mx, e_pcI, e_pcL, e_low, zml_195, zg195_0, zb195_0, zg195_12, zb195_12, zg195_22, zb195_22, zg195_68, zb195_68, zmc_194, zms_194, zow_194, zhd_194, zmc_195, zms_195, zow_195, zhd_195, ↓gf_10_0, ↓gf_10_1, ↓gf_10_12, ↓gf_10_13, ↓gf_10_3, ↓gf_10_4, ↓gf_10_5, ↓gf_10_6, ↓gf_4_0, ↓gf_4_1, ↓gf_8_0, ↓gv_4, ↓pp_0_0, ↓pp_10_1, ↓pp_10_2, ↓pp_10_3, ↓pp_10_4, ↓pp_2_0, ↓pp_7_0, ↓pq_0_0, ↓pq_10_1, ↓pq_10_2, ↓pq_10_3, ↓pq_10_4, ↓pq_2_0, ↓pq_7_0, ↓pw_0_0, ↓pw_10_1, ↓pw_10_2, ↓pw_10_3, ↓pw_10_4, ↓pw_2_0, ↓pw_7_0, show (Int8.ofInt 10).toInt32 = Int32.ofInt 10 from rfl, show ztg 1 11 = 12 from rfl, show ztg 43 25 = 68 from rfl, show ztg 9 13 = 22 from rfl, LMain_d lM, LMain_d17 lM, LMain_n17 lM, LMain_d46 lM, LMain_r0 lM, LMain_r5 lM, LMain_r6 lM, LMain_r7 lM, LMain_r8 lM, LMain_r9 lM, LMain_r10 lM, LMain_r11 lM, LMain_r12 lM, LMain_r13 lM, CI_N h, CI_4 h]
  try simp (disch := omega) only [ii_lt, ii_le, ii_eq, ii_eq0, ii_lt0, ii_0lt, ii_le0, ii_0le, i_inT, i_natN, i_nat, ia_div, ia_rem, hs_ofI, i_1shl, i_or, i_bit, true_and, and_true, not_true_eq_false, not_false_eq_true, true_implies, false_implies, implies_true, Int.reduceLT, Int.reduceLE, Int.reduceEq, Int.reduceNeg, Int.toNat_natCast, Int.reduceToNat, Nat.reduceLeDiff, Nat.reduceAdd, tn_2, tn_2p, tn_48, tn_48r, tn_3, tn_3p, tn_3q, tn_p1, tn_d2, tn_12, ia_add, ia_sub, ia_mul]
  by_cases c : 0 ≤ n ∧ n ≤ (xN s : Int)
  rotate_left 1
  · have := hQ1 c _ (fQ_fw (fQ_nX hg)) (CI_nX h)
    exact ⟨fun _ => this, fun _ => ⟨fun _ => by omega, fun _ => this⟩⟩
  have hQ2 := hQ2 c
  refine ⟨fun z => by omega, fun _ => ⟨fun _ => ?_, fun z => by omega⟩⟩
  obtain ⟨n, rfl⟩ : ∃ k : Nat, n = (k : Int) := ⟨n.toNat, by omega⟩
  simp only [Int.toNat_natCast] at hQ2
  obtain ⟨u, hu⟩ : ∃ u, u = 50 - t := ⟨_, rfl⟩
  have hu2 : u = 18 ∨ u = 32 := by omega
  rw [← hu]
  have lT : LTown σ u := by
    rcases hu2 with e | e
    · rw [e]
      exact (CI_A h).2.1
    · rw [e]
      exact (CI_A h).2.2.1
  refine u_rAll (f := xF s) (t := u) (show LTown (sI σ 16 1 (Int32.ofInt 0)) u from lT) hu2 (LMain_d46 lM) (LMain_d17 lM) (LMain_n17 lM) (by omega) (fun j hj => ⟨?_, (CI_v h).2.1 j (by omega)⟩) (fun k pl τ e f g0 g1 => ?_) (fun T r τ e f hT hw hS hL hR => ?_)
  · rw [gA_sI]
    exact CI_F h j (by omega)
  · have fk1 := fk_fy hu2 f
    have lA := LA_R fk1.1 fk1.2.1 fk1.2.2.2.1 (CI_A h)
    have lM1 := LA_Main lA
    simp -implicitDefEqProofs only [zx_iconst, zx_bipush, zx_sipush, zx_lconst, zx_ldc, zx_ldcS, zx_ldc_w, zx_ldc2_w, zx_iload, zx_lload, zx_aload, zx_istore_n, zx_istore, zx_lstore_n, zx_lstore, zx_astore_n, zx_astore, zx_iinc, zx_iadd, zx_isub, zx_imul, zx_iand, zx_ior, zx_ixor, zx_ishl, zx_ishr, zx_iushr, zx_idiv, zx_irem, zx_ineg, zx_ladd, zx_lsub, zx_land, zx_lor, zx_lxor, zx_lneg, zx_lshl, zx_lushr, zx_i2l, zx_l2i, zx_lcmp, zx_dup, zx_dup2, zx_pop, zx_goto, zx_if_eq, zx_if_ne, zx_if_lt, zx_if_ge, zx_if_gt, zx_if_le, zx_icmp_eq, zx_icmp_ne, zx_icmp_lt, zx_icmp_ge, zx_icmp_gt, zx_icmp_le, zx_getfield, zx_putfield, zx_iaload, zx_laload, zx_aaload, zx_iastore, zx_lastore, zx_arraylength, zx_ireturn, zx_lreturn, zx_areturn, zx_return, zx_athrow, zx_static0, zx_static1, zx_virt1, zx_static2, zx_virt2, zx_static3, zx_virt3, zx_static4, zx_virt4, zx_static5, zx_virt5, zx_static6, zx_virt6, zx_static7, zx_virt7, zx_cpI, zx_cpL, ↓cpI, ↓cpL, zx_slen, zx_schr, zx_tsw, zx_spec3, new_X, zx_new1, zrun_nil, zrun_cons, ↓zgi_h, ↓zgi_n, ↓zgl_h, ↓zgl_n, ↓zgr_h, ↓zgr_n, zset1, zset2, zins_nil, zins_c, f3, cat_i, cat_l, cat_r, List.filter_cons, List.filter_nil, Bool.false_eq_true, l_of0, lv_args, Nat.reduceBEq, Nat.reduceAdd, Nat.reduceLeDiff, Nat.reduceLT, Bool.not_true, Bool.not_false, Bool.and_true, Bool.true_and, Bool.and_false, Bool.false_and, Nat.reduceEqDiff, reduceIte, List.contains_cons, List.contains_nil, Bool.or_false, Bool.or_true, Bool.false_or, Bool.true_or, Fin.isValue, Fin.val_zero, Fin.val_one, Fin.val_two, Fin.reduceFinMk, Option.toList_some, Option.toList_none, List.nil_append, List.cons_append, zwt_nil, zwt_i, zwt_l, zwt_r, zthr_nil, List.isEmpty_nil, zcE, ↓ar_k, lgc0, true_and, and_true, true_implies, implies_true, false_implies, forall_const, i_len, ob_0, ob_1, ↓bI_01, bI_0, not_true_eq_false, not_false_eq_true, Bool.not_eq_false, Bool.not_eq_true, ia_add, ia_sub, ia_mul, ia_neg, ↓ldI, ↓ldL, zaI_c, zaL_c, ↓zlen_I, ↓zlen_L, ↓stI, ↓stL, gD_sI, gN_sI, gI_sI, gJ_sI, gR_sI, gA_sI, gB_sI, gT_sI, gD_sJ, gN_sJ, gI_sJ, gJ_sJ, gR_sJ, gA_sJ, gB_sJ, gT_sJ, gD_sR, gN_sR, gI_sR, gJ_sR, gR_sR, gA_sR, gB_sR, gT_sR, gD_sA, gN_sA, gI_sA, gJ_sA, gR_sA, gA_sA, gB_sA, gT_sA, gD_sB, gN_sB, gI_sB, gJ_sB, gR_sB, gA_sB, gB_sB, gT_sB, zx_il0, zx_il1, zx_il2, zx_il3, zx_ll0, zx_ll1, zx_ll2, zx_ll3, zx_al0, zx_al1, zx_al2, zx_al3, e_has, e_bA, e_mn, e_mx, e_pcI, e_pcL, e_low, zml_195, zg195_0, zb195_0, zg195_12, zb195_12, zg195_22, zb195_22, zg195_68, zb195_68, zmc_194, zms_194, zow_194, zhd_194, zmc_195, zms_195, zow_195, zhd_195, ↓gf_10_0, ↓gf_10_1, ↓gf_10_12, ↓gf_10_13, ↓gf_10_3, ↓gf_10_4, ↓gf_10_5, ↓gf_10_6, ↓gf_4_0, ↓gf_4_1, ↓gf_8_0, ↓gv_4, ↓pp_0_0, ↓pp_10_1, ↓pp_10_2, ↓pp_10_3, ↓pp_10_4, ↓pp_2_0, ↓pp_7_0, ↓pq_0_0, ↓pq_10_1, ↓pq_10_2, ↓pq_10_3, ↓pq_10_4, ↓pq_2_0, ↓pq_7_0, ↓pw_0_0, ↓pw_10_1, ↓pw_10_2, ↓pw_10_3, ↓pw_10_4, ↓pw_2_0, ↓pw_7_0, show (Int8.ofInt 10).toInt32 = Int32.ofInt 10 from rfl, show ztg 1 11 = 12 from rfl, show ztg 43 25 = 68 from rfl, show ztg 9 13 = 22 from rfl, LMain_d lM1, LMain_d17 lM1, LMain_n17 lM1, LMain_d46 lM1, LMain_r0 lM1, LMain_r5 lM1, LMain_r6 lM1, LMain_r7 lM1, LMain_r8 lM1, LMain_r9 lM1, LMain_r10 lM1, LMain_r11 lM1, LMain_r12 lM1, LMain_r13 lM1, g0, g1]
    try simp (disch := omega) only [ii_lt, ii_le, ii_eq, ii_eq0, ii_lt0, ii_0lt, ii_le0, ii_0le, i_inT, i_natN, i_nat, ia_div, ia_rem, hs_ofI, i_1shl, i_or, i_bit, true_and, and_true, not_true_eq_false, not_false_eq_true, true_implies, false_implies, implies_true, Int.reduceLT, Int.reduceLE, Int.reduceEq, Int.reduceNeg, Int.toNat_natCast, Int.reduceToNat, Nat.reduceLeDiff, Nat.reduceAdd, tn_2, tn_2p, tn_48, tn_48r, tn_3, tn_3p, tn_3q, tn_p1, tn_d2, tn_12, ia_add, ia_sub, ia_mul]
    rw [if_neg (fun z => z.1), ← Int32.ofInt_sub]
    have e1 : s_town s n = ((xF s, 0, (pl : Int)), s.2) := by
      unfold s_town
      rw [e]
    have e2 : a_town s n = (k : Int) - 10 := by
      unfold a_town
      rw [e]
    rw [e1, e2] at hQ2
    have r3 : gR τ 16 3 = t := by
      rw [f.2.2.1, gR_sR, if_neg (by omega), gR_sI]
      exact CI_3 h
    have r4 : gR τ 16 4 = 50 - t := by
      rw [f.2.2.1, gR_sR, if_neg (by omega), gR_sI]
      exact CI_4 h
    have n1 : gI τ 16 1 = Int32.ofInt 0 := by
      rw [(f.2.2.2.2 16 (by omega)).1, gI_sR, gI_sI, if_pos ⟨rfl, rfl⟩]
    have fk2 : fk u σ (sI τ 16 2 (Int32.ofInt pl)) := by
      refine ⟨fk1.1, fk1.2.1, fk1.2.2.1, fk1.2.2.2.1, fun a h1 h2 h3 => ?_⟩
      refine sm_trans (fk1.2.2.2.2 a h1 h2 h3) ⟨rfl, rfl, ?_, rfl, rfl, rfl, rfl⟩
      funext k
      rw [gI_sI, if_neg (by omega)]
    refine hQ2 _ t (fk_fw fk2 hu2) (CI_fault h hu fk2 r3 r4 ?_ ?_)
    · rw [gI_sI, if_neg (by omega)]
      exact n1
    · rw [gI_sI, if_pos ⟨rfl, rfl⟩]
  · have fk1 := fk_fy hu2 f
    have lA := LA_R fk1.1 fk1.2.1 fk1.2.2.2.1 (CI_A h)
    have lM1 := LA_Main lA
    have r3 : gR τ 16 3 = t := by
      rw [f.2.2.1, gR_sR, if_neg (by omega), gR_sI]
      exact CI_3 h
    have r4 : gR τ 16 4 = u := by
      rw [f.2.2.1, gR_sR, if_neg (by omega), gR_sI, hu]
      exact CI_4 h
    simp -implicitDefEqProofs only [zx_iconst, zx_bipush, zx_sipush, zx_lconst, zx_ldc, zx_ldcS, zx_ldc_w, zx_ldc2_w, zx_iload, zx_lload, zx_aload, zx_istore_n, zx_istore, zx_lstore_n, zx_lstore, zx_astore_n, zx_astore, zx_iinc, zx_iadd, zx_isub, zx_imul, zx_iand, zx_ior, zx_ixor, zx_ishl, zx_ishr, zx_iushr, zx_idiv, zx_irem, zx_ineg, zx_ladd, zx_lsub, zx_land, zx_lor, zx_lxor, zx_lneg, zx_lshl, zx_lushr, zx_i2l, zx_l2i, zx_lcmp, zx_dup, zx_dup2, zx_pop, zx_goto, zx_if_eq, zx_if_ne, zx_if_lt, zx_if_ge, zx_if_gt, zx_if_le, zx_icmp_eq, zx_icmp_ne, zx_icmp_lt, zx_icmp_ge, zx_icmp_gt, zx_icmp_le, zx_getfield, zx_putfield, zx_iaload, zx_laload, zx_aaload, zx_iastore, zx_lastore, zx_arraylength, zx_ireturn, zx_lreturn, zx_areturn, zx_return, zx_athrow, zx_static0, zx_static1, zx_virt1, zx_static2, zx_virt2, zx_static3, zx_virt3, zx_static4, zx_virt4, zx_static5, zx_virt5, zx_static6, zx_virt6, zx_static7, zx_virt7, zx_cpI, zx_cpL, ↓cpI, ↓cpL, zx_slen, zx_schr, zx_tsw, zx_spec3, new_X, zx_new1, zrun_nil, zrun_cons, ↓zgi_h, ↓zgi_n, ↓zgl_h, ↓zgl_n, ↓zgr_h, ↓zgr_n, zset1, zset2, zins_nil, zins_c, f3, cat_i, cat_l, cat_r, List.filter_cons, List.filter_nil, Bool.false_eq_true, l_of0, lv_args, Nat.reduceBEq, Nat.reduceAdd, Nat.reduceLeDiff, Nat.reduceLT, Bool.not_true, Bool.not_false, Bool.and_true, Bool.true_and, Bool.and_false, Bool.false_and, Nat.reduceEqDiff, reduceIte, List.contains_cons, List.contains_nil, Bool.or_false, Bool.or_true, Bool.false_or, Bool.true_or, Fin.isValue, Fin.val_zero, Fin.val_one, Fin.val_two, Fin.reduceFinMk, Option.toList_some, Option.toList_none, List.nil_append, List.cons_append, zwt_nil, zwt_i, zwt_l, zwt_r, zthr_nil, List.isEmpty_nil, zcE, ↓ar_k, lgc0, true_and, and_true, true_implies, implies_true, false_implies, forall_const, i_len, ob_0, ob_1, ↓bI_01, bI_0, not_true_eq_false, not_false_eq_true, Bool.not_eq_false, Bool.not_eq_true, ia_add, ia_sub, ia_mul, ia_neg, ↓ldI, ↓ldL, zaI_c, zaL_c, ↓zlen_I, ↓zlen_L, ↓stI, ↓stL, gD_sI, gN_sI, gI_sI, gJ_sI, gR_sI, gA_sI, gB_sI, gT_sI, gD_sJ, gN_sJ, gI_sJ, gJ_sJ, gR_sJ, gA_sJ, gB_sJ, gT_sJ, gD_sR, gN_sR, gI_sR, gJ_sR, gR_sR, gA_sR, gB_sR, gT_sR, gD_sA, gN_sA, gI_sA, gJ_sA, gR_sA, gA_sA, gB_sA, gT_sA, gD_sB, gN_sB, gI_sB, gJ_sB, gR_sB, gA_sB, gB_sB, gT_sB, zx_il0, zx_il1, zx_il2, zx_il3, zx_ll0, zx_ll1, zx_ll2, zx_ll3, zx_al0, zx_al1, zx_al2, zx_al3, e_has, e_bA, e_mn, e_mx, e_pcI, e_pcL, e_low, zml_195, zg195_0, zb195_0, zg195_12, zb195_12, zg195_22, zb195_22, zg195_68, zb195_68, zmc_194, zms_194, zow_194, zhd_194, zmc_195, zms_195, zow_195, zhd_195, ↓gf_10_0, ↓gf_10_1, ↓gf_10_12, ↓gf_10_13, ↓gf_10_3, ↓gf_10_4, ↓gf_10_5, ↓gf_10_6, ↓gf_4_0, ↓gf_4_1, ↓gf_8_0, ↓gv_4, ↓pp_0_0, ↓pp_10_1, ↓pp_10_2, ↓pp_10_3, ↓pp_10_4, ↓pp_2_0, ↓pp_7_0, ↓pq_0_0, ↓pq_10_1, ↓pq_10_2, ↓pq_10_3, ↓pq_10_4, ↓pq_2_0, ↓pq_7_0, ↓pw_0_0, ↓pw_10_1, ↓pw_10_2, ↓pw_10_3, ↓pw_10_4, ↓pw_2_0, ↓pw_7_0, show (Int8.ofInt 10).toInt32 = Int32.ofInt 10 from rfl, show ztg 1 11 = 12 from rfl, show ztg 43 25 = 68 from rfl, show ztg 9 13 = 22 from rfl, LMain_d lM1, LMain_d17 lM1, LMain_n17 lM1, LMain_d46 lM1, LMain_r0 lM1, LMain_r5 lM1, LMain_r6 lM1, LMain_r7 lM1, LMain_r8 lM1, LMain_r9 lM1, LMain_r10 lM1, LMain_r11 lM1, LMain_r12 lM1, LMain_r13 lM1, r3, r4, LTown_g (CT_L hT), LTown_d (CT_L hT), LTown_r6 (CT_L hT), LTown_k6 (CT_L hT), LTown_n6 (CT_L hT), LTown_r7 (CT_L hT), LTown_k7 (CT_L hT), LTown_n7 (CT_L hT), LTown_r8 (CT_L hT), LTown_k8 (CT_L hT), LTown_n8 (CT_L hT), LTown_r9 (CT_L hT), LTown_k9 (CT_L hT), LTown_n9 (CT_L hT), LTown_r10 (CT_L hT), LTown_k10 (CT_L hT), LTown_n10 (CT_L hT), LTown_r11 (CT_L hT), LTown_k11 (CT_L hT), LTown_n11 (CT_L hT), LTown_r12 (CT_L hT), LTown_k12 (CT_L hT), LTown_n12 (CT_L hT), LTown_r13 (CT_L hT), LTown_k13 (CT_L hT), LTown_n13 (CT_L hT), LTown_r14 (CT_L hT), LTown_k14 (CT_L hT), LTown_n14 (CT_L hT), LTown_r15 (CT_L hT), LTown_k15 (CT_L hT), LTown_n15 (CT_L hT), LTown_r16 (CT_L hT), LTown_k16 (CT_L hT), LTown_n16 (CT_L hT), LTown_r17 (CT_L hT), LTown_k17 (CT_L hT), LTown_n17 (CT_L hT), LTown_r18 (CT_L hT), LTown_k18 (CT_L hT), LTown_n18 (CT_L hT), CT_0 hT, LChanges_d (LA_Changes lA), LChanges_r1 (LA_Changes lA), LChanges_k1 (LA_Changes lA), LChanges_n1 (LA_Changes lA), LChanges_r2 (LA_Changes lA), LChanges_k2 (LA_Changes lA), LChanges_n2 (LA_Changes lA), LChanges_r3 (LA_Changes lA), LChanges_k3 (LA_Changes lA), LChanges_n3 (LA_Changes lA), LStory_d (LA_Story lA), LStory_r1 (LA_Story lA), LStory_k1 (LA_Story lA), LStory_n1 (LA_Story lA), LStory_r2 (LA_Story lA), LStory_k2 (LA_Story lA), LStory_n2 (LA_Story lA), LStory_r3 (LA_Story lA), LStory_k3 (LA_Story lA), LStory_n3 (LA_Story lA), LStory_r4 (LA_Story lA), LStory_k4 (LA_Story lA), LStory_n4 (LA_Story lA), LImages_d (LA_Images lA), LImages_r1 (LA_Images lA), LImages_k1 (LA_Images lA), LImages_n1 (LA_Images lA), LImages_r2 (LA_Images lA), LImages_k2 (LA_Images lA), LImages_n2 (LA_Images lA), LImages_r3 (LA_Images lA), LImages_k3 (LA_Images lA), LImages_n3 (LA_Images lA)]
    try simp (disch := omega) only [ii_lt, ii_le, ii_eq, ii_eq0, ii_lt0, ii_0lt, ii_le0, ii_0le, i_inT, i_natN, i_nat, ia_div, ia_rem, hs_ofI, i_1shl, i_or, i_bit, true_and, and_true, not_true_eq_false, not_false_eq_true, true_implies, false_implies, implies_true, Int.reduceLT, Int.reduceLE, Int.reduceEq, Int.reduceNeg, Int.toNat_natCast, Int.reduceToNat, Nat.reduceLeDiff, Nat.reduceAdd, tn_2, tn_2p, tn_48, tn_48r, tn_3, tn_3p, tn_3q, tn_p1, tn_d2, tn_12, ia_add, ia_sub, ia_mul]
    rw [if_neg (by omega), if_neg (by omega), if_neg (by omega), if_neg (fun z => z.2)]
    have e1 : s_town s n = ((xF s, 0, -1), T, (fun _ => r), 0, (xU s, 0), 0, xi0 s, xi1 s, xi2 s) := by
      unfold s_town
      rw [e]
    have e2 : a_town s n = (nC T : Int) := by
      unfold a_town
      rw [e]
    rw [e1, e2] at hQ2
    have smr : ∀ a, a ≠ 16 → a ≠ 48 → a ≠ 79 → a ≠ 84 → sm τ (sI (sI (sI (sI (sR (sR τ 16 3 u) 16 4 t) 16 2 (Int32.ofInt (-1))) 48 0 (Int32.ofInt 0)) 79 0 (Int32.ofInt 0)) 84 0 (Int32.ofInt 0)) a := by
      intro a h1 h2 h3 h4
      refine ⟨rfl, rfl, ?_, rfl, ?_, rfl, rfl⟩
      · funext k
        rw [gI_sI, if_neg (by omega), gI_sI, if_neg (by omega), gI_sI, if_neg (by omega), gI_sI, if_neg (by omega), gI_sR, gI_sR]
      · funext k
        rw [gR_sI, gR_sI, gR_sI, gR_sI, gR_sR, if_neg (by omega), gR_sR, if_neg (by omega)]
    have hR2 : ∀ a k, a ≠ 46 → a ≠ 16 ∨ (k ≠ 3 ∧ k ≠ 4) → gR (sI (sI (sI (sI (sR (sR τ 16 3 u) 16 4 t) 16 2 (Int32.ofInt (-1))) 48 0 (Int32.ofInt 0)) 79 0 (Int32.ofInt 0)) 84 0 (Int32.ofInt 0)) a k = gR σ a k := by
      intro a k h1 h2
      rw [gR_sI, gR_sI, gR_sI, gR_sI, gR_sR, if_neg (by omega), gR_sR, if_neg (by omega)]
      exact fk1.2.2.2.1 a k h1 h2
    have q3 : gR (sI (sI (sI (sI (sR (sR τ 16 3 u) 16 4 t) 16 2 (Int32.ofInt (-1))) 48 0 (Int32.ofInt 0)) 79 0 (Int32.ofInt 0)) 84 0 (Int32.ofInt 0)) 16 3 = u := by
      rw [gR_sI, gR_sI, gR_sI, gR_sI, gR_sR, if_neg (by omega), gR_sR, if_pos ⟨rfl, rfl⟩]
    have q4 : gR (sI (sI (sI (sI (sR (sR τ 16 3 u) 16 4 t) 16 2 (Int32.ofInt (-1))) 48 0 (Int32.ofInt 0)) 79 0 (Int32.ofInt 0)) 84 0 (Int32.ofInt 0)) 16 4 = 50 - u := by
      rw [gR_sI, gR_sI, gR_sI, gR_sI, gR_sR, if_pos ⟨rfl, rfl⟩]
      omega
    have n1 : gI (sI (sI (sI (sI (sR (sR τ 16 3 u) 16 4 t) 16 2 (Int32.ofInt (-1))) 48 0 (Int32.ofInt 0)) 79 0 (Int32.ofInt 0)) 84 0 (Int32.ofInt 0)) 16 1 = Int32.ofInt 0 := by
      rw [gI_sI, if_neg (by omega), gI_sI, if_neg (by omega), gI_sI, if_neg (by omega), gI_sI, if_neg (by omega), gI_sR, gI_sR, (f.2.2.2.2 16 (by omega)).1, gI_sR, gI_sI, if_pos ⟨rfl, rfl⟩]
    have n2 : gI (sI (sI (sI (sI (sR (sR τ 16 3 u) 16 4 t) 16 2 (Int32.ofInt (-1))) 48 0 (Int32.ofInt 0)) 79 0 (Int32.ofInt 0)) 84 0 (Int32.ofInt 0)) 16 2 = Int32.ofInt (-1) := by
      rw [gI_sI, if_neg (by omega), gI_sI, if_neg (by omega), gI_sI, if_neg (by omega), gI_sI, if_pos ⟨rfl, rfl⟩]
    have n48 : gI (sI (sI (sI (sI (sR (sR τ 16 3 u) 16 4 t) 16 2 (Int32.ofInt (-1))) 48 0 (Int32.ofInt 0)) 79 0 (Int32.ofInt 0)) 84 0 (Int32.ofInt 0)) 48 0 = Int32.ofInt 0 := by
      rw [gI_sI, if_neg (by omega), gI_sI, if_neg (by omega), gI_sI, if_pos ⟨rfl, rfl⟩]
    have n79 : gI (sI (sI (sI (sI (sR (sR τ 16 3 u) 16 4 t) 16 2 (Int32.ofInt (-1))) 48 0 (Int32.ofInt 0)) 79 0 (Int32.ofInt 0)) 84 0 (Int32.ofInt 0)) 79 0 = Int32.ofInt 0 := by
      rw [gI_sI, if_neg (by omega), gI_sI, if_pos ⟨rfl, rfl⟩]
    have n84 : gI (sI (sI (sI (sI (sR (sR τ 16 3 u) 16 4 t) 16 2 (Int32.ofInt (-1))) 48 0 (Int32.ofInt 0)) 79 0 (Int32.ofInt 0)) 84 0 (Int32.ofInt 0)) 84 0 = Int32.ofInt 0 := by
      rw [gI_sI, if_pos ⟨rfl, rfl⟩]
    have hD2 : gD (sI (sI (sI (sI (sR (sR τ 16 3 u) 16 4 t) 16 2 (Int32.ofInt (-1))) 48 0 (Int32.ofInt 0)) 79 0 (Int32.ofInt 0)) 84 0 (Int32.ofInt 0)) = gD σ := fk1.1
    have hN2 : gN (sI (sI (sI (sI (sR (sR τ 16 3 u) 16 4 t) 16 2 (Int32.ofInt (-1))) 48 0 (Int32.ofInt 0)) 79 0 (Int32.ofInt 0)) 84 0 (Int32.ofInt 0)) = gN σ := fk1.2.1
    have hT2 : gT (sI (sI (sI (sI (sR (sR τ 16 3 u) 16 4 t) 16 2 (Int32.ofInt (-1))) 48 0 (Int32.ofInt 0)) 79 0 (Int32.ofInt 0)) 84 0 (Int32.ofInt 0)) = gT σ := fk1.2.2.1
    generalize sI (sI (sI (sI (sR (sR τ 16 3 u) 16 4 t) 16 2 (Int32.ofInt (-1))) 48 0 (Int32.ofInt 0)) 79 0 (Int32.ofInt 0)) 84 0 (Int32.ofInt 0) = ρ at *
    obtain ⟨p, b, hp⟩ := CI_p h
    have s59 : sm σ ρ 59 := sm_trans (fk1.2.2.2.2 59 (by omega) (by omega) (by omega)) (smr 59 (by omega) (by omega) (by omega) (by omega))
    have su : ∀ k, k ≤ 13 → sm τ ρ (u + k) := fun k hk => smr _ (by omega) (by omega) (by omega) (by omega)
    refine hQ2 ρ u ⟨by rw [hT2]; exact Nat.le_refl _, fun a h1 h2 => sm_trans (fk1.2.2.2.2 a (by omega) (by omega) (by omega)) (smr a (by omega) (by omega) (by omega) (by omega))⟩ ⟨?_, LA_R hD2 hN2 hR2 (CI_A h), ⟨(show CT ρ u T from CT_sm hT su), q3, q4⟩, (show CS ρ u T from CS_sm hS su), ?_, ?_, ⟨n48, fun v hv => absurd hv (Nat.not_lt_zero _)⟩, ⟨n79, Nat.zero_le _, fun j hj => absurd hj (Nat.not_lt_zero _)⟩, ⟨n1, fun j hj => absurd hj (Nat.not_lt_zero _), n2⟩, ⟨n84, fun j hj => absurd hj (Nat.not_lt_zero _)⟩, ⟨p, b, PS_R hD2 hN2 hT2 hR2 hp⟩, ?_, by rw [hT2]; exact CI_g h⟩
    · exact ⟨Nat.zero_le _, fun j hj => absurd hj (Nat.not_lt_zero _), trivial, hw, Nat.zero_le _, Nat.zero_le _, fun j hj => absurd hj (Nat.not_lt_zero _), Nat.zero_le _, fun j hj => absurd hj (Nat.not_lt_zero _), fun k j _ hj => absurd hj (Nat.not_lt_zero _)⟩
    · show CLf ρ u T
      unfold CLf at hL ⊢
      rw [(show gI ρ u = gI τ u from (su 0 (by omega)).2.2.1), (su 13 (by omega)).2.2.2.2.2.1]
      exact hL
    · show RS (gB ρ (u + 6)) (gB ρ (u + 7)) r
      rw [(su 6 (by omega)).2.2.2.2.2.2, (su 7 (by omega)).2.2.2.2.2.2]
      exact hR
    · obtain ⟨q, q1, q2⟩ := CI_q h
      exact ⟨q, q1, by rw [s59.2.2.1]; exact q2⟩
