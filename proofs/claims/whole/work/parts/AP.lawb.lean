/-! THE LAW, FROM ITS BEGINNING -/
theorem zx_newO {P : Nat → zM} {C : Nat → List Value → zH → zQ → Prop} {k : Nat} {J : Nat → zK} {Q : zQ} {K : zK} {pc len a b m : Nat} {d : Int} {L : zL} {S : List Value} {s : zS} {kc ks : Nat} : zstp P C k J Q (pc, .new m, len, a, b, d) K L S (hOf s) kc ks = (kc + 1 ≤ zmc (P k) ∧ ks + zsz.getD a 0 ≤ zms (P k) ∧ K L (.ref (gT s) :: S) (uc (nX s) (gT s) (.inr (0, [])) (gT s) a (zdfs a)) (kc + 1) (ks + zsz.getD a 0)) := by
  rw [← uc_of]
  rfl
theorem zx_newB {P : Nat → zM} {C : Nat → List Value → zH → zQ → Prop} {k : Nat} {J : Nat → zK} {Q : zQ} {K : zK} {pc len a b : Nat} {d : Int} {L : zL} {S : List Value} {s : zS} {kc ks : Nat} {n : Int32} : zstp P C k J Q (pc, .newarray .long, len, a, b, d) K L (.int n :: S) (hOf s) kc ks = (¬ n < 0 ∧ n.toNatClampNeg ≤ 1000000 ∧ kc + 1 ≤ zmc (P k) ∧ ks + n.toNatClampNeg ≤ zms (P k) ∧ K L (.ref (gT s) :: S) (hOf (nB s n.toNatClampNeg)) (kc + 1) (ks + n.toNatClampNeg)) := by
  rw [← new_B]
  rfl
/-- the store at the beginning: the script alone -/
def s16 (N : Nat) (f : Nat → Int32) : zS := (fun a => if a = 0 then 1 else 0, fun a => if a = 0 then N else 0, fun _ _ => 0, fun _ _ => 0, fun _ _ => 0, fun a => if a = 0 then f else fun _ => 0, fun _ _ => 0, 16)
def s88 (N : Nat) (f : Nat → Int32) : zS := N10 (nX (s16 N f))
def s1282 (N : Nat) (f : Nat → Int32) : zS := N203 (nX (s88 N f))
theorem g_88 {N : Nat} {f : Nat → Int32} : gT (s88 N f) = 88 := rfl
theorem g_1282 {N : Nat} {f : Nat → Int32} : gT (s1282 N f) = 1282 := rfl
theorem LW_0 {N : Nat} {f : Nat → Int32} : LW (nB (s1282 N f) 1) 18 s00 N := by
  have hg : gT (nB (s1282 N f) 1) = 1283 := rfl
  have e1 : E4 16 88 (s88 N f) (nB (s1282 N f) 1) := E4_B (E4_F (E4_M (E4_X (E4_refl (by rw [g_88]; exact Nat.le_refl _)))) (.inr (Nat.le_refl _)))
  have e2 : E4 88 1282 (s1282 N f) (nB (s1282 N f) 1) := E4_B (E4_refl (by rw [g_1282]; exact Nat.le_refl _))
  have e3 : E4 0 1 (s16 N f) (nB (s1282 N f) 1) := E4_B (E4_F (E4_M (E4_X (E4_F (E4_S2 (E4_S7 (E4_S9 (E4_S3 (E4_S1 (E4_S5 (E4_S6 (E4_S0 (E4_S4 (E4_S8 (E4_S8 (E4_A (E4_X (E4_refl (Nat.le_of_ble_eq_true rfl)))))))))))))) (.inr (by omega))))) (.inr (by omega)))
  have z := e3.2 0 (Nat.le_refl _) (by omega)
  refine ⟨CI_0 rfl e1 (by omega), MI_0 rfl e2 (by omega), ⟨?_, ?_⟩, ?_, ?_⟩
  · exact if_pos g_1282.symm
  · exact if_pos g_1282.symm
  · exact z.1
  · exact z.2.1
theorem L_law {N : Nat} {f : Nat → Int32} {Q : zQ} (hN : N ≤ 384) (hQ : ∀ h, Q (.inl (some (.int (Int32.ofInt 1)))) h) : zW zP 314 [.ref 0] (hOf (s16 N f)) Q := by
  have k0 := fun kc ks h1 h2 => L_loop hN hQ 64 0 kc ks (nB (s1282 N f) 1) 18 s00 LW_0 (by omega) (by omega) h1 h2
  rw [zWE]
  simp -implicitDefEqProofs only [zx_iconst, zx_bipush, zx_sipush, zx_lconst, zx_ldc, zx_ldcS, zx_ldc_w, zx_ldc2_w, zx_iload, zx_lload, zx_aload, zx_istore_n, zx_istore, zx_lstore_n, zx_lstore, zx_astore_n, zx_astore, zx_iinc, zx_iadd, zx_isub, zx_imul, zx_iand, zx_ior, zx_ixor, zx_ishl, zx_ishr, zx_iushr, zx_idiv, zx_irem, zx_ineg, zx_ladd, zx_lsub, zx_land, zx_lor, zx_lxor, zx_lneg, zx_lshl, zx_lushr, zx_i2l, zx_l2i, zx_lcmp, zx_dup, zx_dup2, zx_pop, zx_goto, zx_if_eq, zx_if_ne, zx_if_lt, zx_if_ge, zx_if_gt, zx_if_le, zx_icmp_eq, zx_icmp_ne, zx_icmp_lt, zx_icmp_ge, zx_icmp_gt, zx_icmp_le, zx_getfield, zx_putfield, zx_iaload, zx_laload, zx_aaload, zx_iastore, zx_lastore, zx_arraylength, zx_ireturn, zx_lreturn, zx_areturn, zx_return, zx_athrow, zx_static0, zx_static1, zx_virt1, zx_static2, zx_virt2, zx_static3, zx_virt3, zx_static4, zx_virt4, zx_static5, zx_virt5, zx_static6, zx_virt6, zx_static7, zx_virt7, zx_cpI, zx_cpL, ↓cpI, ↓cpL, zx_slen, zx_schr, zx_tsw, zx_spec3, new_X, zx_new1, zrun_nil, zrun_cons, ↓zgi_h, ↓zgi_n, ↓zgl_h, ↓zgl_n, ↓zgr_h, ↓zgr_n, zset1, zset2, zins_nil, zins_c, f3, cat_i, cat_l, cat_r, List.filter_cons, List.filter_nil, Bool.false_eq_true, l_of0, lv_args, Nat.reduceBEq, Nat.reduceAdd, Nat.reduceLeDiff, Nat.reduceLT, Bool.not_true, Bool.not_false, Bool.and_true, Bool.true_and, Bool.and_false, Bool.false_and, Nat.reduceEqDiff, reduceIte, List.contains_cons, List.contains_nil, Bool.or_false, Bool.or_true, Bool.false_or, Bool.true_or, Fin.isValue, Fin.val_zero, Fin.val_one, Fin.val_two, Fin.reduceFinMk, Option.toList_some, Option.toList_none, List.nil_append, List.cons_append, zwt_nil, zwt_i, zwt_l, zwt_r, zthr_nil, List.isEmpty_nil, zcE, ↓ar_k, lgc0, true_and, and_true, true_implies, implies_true, false_implies, forall_const, i_len, ob_0, ob_1, ↓bI_01, bI_0, not_true_eq_false, not_false_eq_true, Bool.not_eq_false, Bool.not_eq_true, ia_add, ia_sub, ia_mul, ia_neg, ↓ldI, ↓ldL, zaI_c, zaL_c, ↓zlen_I, ↓zlen_L, ↓stI, ↓stL, gD_sI, gN_sI, gI_sI, gJ_sI, gR_sI, gA_sI, gB_sI, gT_sI, gD_sJ, gN_sJ, gI_sJ, gJ_sJ, gR_sJ, gA_sJ, gB_sJ, gT_sJ, gD_sR, gN_sR, gI_sR, gJ_sR, gR_sR, gA_sR, gB_sR, gT_sR, gD_sA, gN_sA, gI_sA, gJ_sA, gR_sA, gA_sA, gB_sA, gT_sA, gD_sB, gN_sB, gI_sB, gJ_sB, gR_sB, gA_sB, gB_sB, gT_sB, zx_il0, zx_il1, zx_il2, zx_il3, zx_ll0, zx_ll1, zx_ll2, zx_ll3, zx_al0, zx_al1, zx_al2, zx_al3, e_has, e_bA, e_mn, e_mx, e_pcI, e_pcL, e_low, tc0, tc1, tc2, tc3, vc0_2, vc1_2, vc0_3, vc1_3, vc2_3, vc0_4, vc1_4, vc2_4, vc3_4, m_in, i10, i20, i00, i11, true_or, false_or, Bool.true_eq_false, eq_self, zml_314, zg314_0, zb314_0, zmc_314, zms_314, zow_314, zhd_314, zmc_10, zms_10, zow_10, zhd_10, zmc_203, zms_203, zow_203, zhd_203, zx_newO, zx_specC, zx_newB]
  exact (trivial : True)
