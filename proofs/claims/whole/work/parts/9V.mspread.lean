/-! SPREADING, IN THE REFERENCE -/
def RB (T : Tw) (R : Nat → Nat → Bool) (p : Nat → Bool) (c N : Nat) (v : Nat → Nat → Nat) : Prop := (∀ a S, a < 2 * nS T → S < 2 ^ N → v a S ≤ 1000000000 ∧ (v a S < 1000000000 → ∃ n, rv T R p c n a S (v a S))) ∧ ∀ a, isA T a = true → bg T a = c → v a (bxs p (en T a)) ≤ ln T a
def RSq (σ : zS) (T : Tw) (N : Nat) (v : Nat → Nat → Nat) : Prop := ∀ a S, a < 2 * nS T → S < 2 ^ N → gA σ (1216 + a) S = Int32.ofInt (v a S)
def u2 (v : Nat → Nat → Nat) (j t x : Nat) (a S : Nat) : Nat := if a = j ∧ S = t then x else v a S
theorem RB_w {T : Tw} {R : Nat → Nat → Bool} {p : Nat → Bool} {c N j t x : Nat} {v : Nat → Nat → Nat} (h : RB T R p c N v) (hx : x < v j t) (hb : x ≤ 1000000000) (hr : ∃ n, rv T R p c n j t x) : RB T R p c N (u2 v j t x) := by
  refine ⟨fun a S ha hS => ?_, fun a h1 h2 => ?_⟩
  · unfold u2
    by_cases e : a = j ∧ S = t
    · rw [if_pos e, e.1, e.2]
      exact ⟨hb, fun _ => hr⟩
    · rw [if_neg e]
      exact h.1 a S ha hS
  · have k := h.2 a h1 h2
    unfold u2
    by_cases e : a = j ∧ bxs p (en T a) = t
    · rw [if_pos e]
      rw [e.2] at k
      have e3 : v a t = v j t := by rw [e.1]
      omega
    · rw [if_neg e]
      exact k
theorem RSq_w {σ : zS} {T : Tw} {N j t x : Nat} {v : Nat → Nat → Nat} (h : RSq σ T N v) : RSq (sA σ (1216 + j) (upd (gA σ (1216 + j)) t (Int32.ofInt x))) T N (u2 v j t x) := by
  intro a S ha hS
  rw [gA_sA]
  unfold u2
  by_cases e : a = j
  · rw [if_pos (by omega), e]
    by_cases e2 : S = t
    · rw [if_pos ⟨rfl, e2⟩, e2, upd_s]
    · rw [if_neg (fun z => e2 z.2), upd_n e2]
      exact h j S (by omega) hS
  · rw [if_neg (by omega), if_neg (fun z => e z.1)]
    exact h a S ha hS
theorem bxs_lt {T : Tw} {p : Nat → Bool} {v N : Nat} (hv : v < nC T) (hN : N = cp p (nC T)) : bxs p v < 2 ^ N := by
  unfold bxs
  by_cases e : p v = true
  · rw [if_pos e]
    have := cp_N hv e
    exact Nat.pow_lt_pow_right (by omega) (by omega)
  · rw [if_neg e]
    exact Nat.two_pow_pos N
theorem u2_le {v : Nat → Nat → Nat} {j t x : Nat} (hx : x < v j t) (a S : Nat) : u2 v j t x a S ≤ v a S := by
  unfold u2
  by_cases e : a = j ∧ S = t
  · rw [if_pos e, e.1, e.2]
    omega
  · rw [if_neg e]
    exact Nat.le_refl _
theorem m_spreads {σ : zS} {T : Tw} {R : Nat → Nat → Bool} {c N m K a : Nat} {v : Nat → Nat → Nat} {Q : zQ} (h : MT σ T) (hw : wf T) (hR : NX (gB σ 610) T R) (hm : m < 65536) (hN : N = cp m.testBit (nC T)) (hN10 : N ≤ 10) (hK : K < 2 ^ N) (ha : a < 2 * nS T) (hv : RB T R m.testBit c N v) (hs : RSq σ T N v)
  (hQ : ∀ (x : Bool) (v2 : Nat → Nat → Nat) (τ : zS), fz 1216 1264 σ τ → RB T R m.testBit c N v2 → RSq τ T N v2 → (∀ b S, v2 b S ≤ v b S) → (∀ b S, S < K → v2 b S = v b S) → (x = true → su (fun b => v2 b K) (2 * nS T) < su (fun b => v b K) (2 * nS T)) → (x = false → (∀ b, v2 b K = v b K) ∧ ∀ b, R a b = true → v2 b (K ||| bxs m.testBit (en T b)) ≤ v2 a K + ln T b) → Q (.inl (some (.int (bI x)))) (hOf τ)) : zW zP 278 [.ref 88, .int (Int32.ofInt a), .int (Int32.ofInt K), .int (Int32.ofInt m)] (hOf σ) Q := by
  have h24 := hw.2.1
  have h16 := hw.1
  have p10 : (2 : Nat) ^ N ≤ 1024 := Nat.pow_le_pow_right (n := 2) (by omega) hN10
  rw [zWE]
  have key : v a K < 1000000000 → ∀ j : Nat, j ≤ 2 * nS T → ∀ (x : Bool) (v2 : Nat → Nat → Nat) (τ : zS), fz 1216 1264 σ τ → RB T R m.testBit c N v2 → RSq τ T N v2 → (∀ b S, v2 b S ≤ v b S) → (∀ b S, S < K → v2 b S = v b S) → (x = true → su (fun b => v2 b K) (2 * nS T) < su (fun b => v b K) (2 * nS T)) → (x = false → (∀ b, v2 b K = v b K) ∧ ∀ b, b < j → R a b = true → v2 b (K ||| bxs m.testBit (en T b)) ≤ v2 a K + ln T b) → zfp zP (zcall zP 278) 278 Q 30 [(0, .ref 88), (1, .int (Int32.ofInt a)), (2, .int (Int32.ofInt K)), (3, .int (Int32.ofInt m)), (4, .int (bI x)), (5, .int (Int32.ofInt j))] [] (hOf τ) 0 0 := by
    intro hva
    refine bk _ ?_
    intro j hj ih x v2 τ fz2 hv2 hs2 hle hlow hx1 hx0
    have hT := MT_fz fz2 (by omega) hw h
    have hL := MT_L hT
    have hRt : NX (gB τ 610) T R := by rw [fz_B fz2 (by omega)]; exact hR
    rw [zg278_30]
    by_cases cj : j < 2 * nS T
    rotate_left
    · have ej : j = 2 * nS T := by omega
      simp -implicitDefEqProofs only [zx_iconst, zx_bipush, zx_sipush, zx_lconst, zx_ldc, zx_ldcS, zx_ldc_w, zx_ldc2_w, zx_iload, zx_lload, zx_aload, zx_istore_n, zx_istore, zx_lstore_n, zx_lstore, zx_astore_n, zx_astore, zx_iinc, zx_iadd, zx_isub, zx_imul, zx_iand, zx_ior, zx_ixor, zx_ishl, zx_ishr, zx_iushr, zx_idiv, zx_irem, zx_ineg, zx_ladd, zx_lsub, zx_land, zx_lor, zx_lxor, zx_lneg, zx_lshl, zx_lushr, zx_i2l, zx_l2i, zx_lcmp, zx_dup, zx_dup2, zx_pop, zx_goto, zx_if_eq, zx_if_ne, zx_if_lt, zx_if_ge, zx_if_gt, zx_if_le, zx_icmp_eq, zx_icmp_ne, zx_icmp_lt, zx_icmp_ge, zx_icmp_gt, zx_icmp_le, zx_getfield, zx_putfield, zx_iaload, zx_laload, zx_aaload, zx_iastore, zx_lastore, zx_arraylength, zx_ireturn, zx_lreturn, zx_areturn, zx_return, zx_athrow, zx_static0, zx_static1, zx_virt1, zx_static2, zx_virt2, zx_static3, zx_virt3, zx_static4, zx_virt4, zx_static5, zx_virt5, zx_static6, zx_virt6, zx_static7, zx_virt7, zx_cpI, zx_cpL, ↓cpI, ↓cpL, zx_slen, zx_schr, zx_tsw, zx_spec3, new_X, zx_new1, zrun_nil, zrun_cons, ↓zgi_h, ↓zgi_n, ↓zgl_h, ↓zgl_n, ↓zgr_h, ↓zgr_n, zset1, zset2, zins_nil, zins_c, f3, cat_i, cat_l, cat_r, List.filter_cons, List.filter_nil, Bool.false_eq_true, l_of0, lv_args, Nat.reduceBEq, Nat.reduceAdd, Nat.reduceLeDiff, Nat.reduceLT, Bool.not_true, Bool.not_false, Bool.and_true, Bool.true_and, Bool.and_false, Bool.false_and, Nat.reduceEqDiff, reduceIte, List.contains_cons, List.contains_nil, Bool.or_false, Bool.or_true, Bool.false_or, Bool.true_or, Fin.isValue, Fin.val_zero, Fin.val_one, Fin.val_two, Fin.reduceFinMk, Option.toList_some, Option.toList_none, List.nil_append, List.cons_append, zwt_nil, zwt_i, zwt_l, zwt_r, zthr_nil, List.isEmpty_nil, zcE, ↓ar_k, lgc0, true_and, and_true, true_implies, implies_true, false_implies, forall_const, i_len, ob_0, ob_1, ↓bI_01, bI_0, not_true_eq_false, not_false_eq_true, Bool.not_eq_false, Bool.not_eq_true, ia_add, ia_sub, ia_mul, ia_neg, ↓ldI, ↓ldL, zaI_c, zaL_c, ↓zlen_I, ↓zlen_L, ↓stI, ↓stL, gD_sI, gN_sI, gI_sI, gJ_sI, gR_sI, gA_sI, gB_sI, gT_sI, gD_sJ, gN_sJ, gI_sJ, gJ_sJ, gR_sJ, gA_sJ, gB_sJ, gT_sJ, gD_sR, gN_sR, gI_sR, gJ_sR, gR_sR, gA_sR, gB_sR, gT_sR, gD_sA, gN_sA, gI_sA, gJ_sA, gR_sA, gA_sA, gB_sA, gT_sA, gD_sB, gN_sB, gI_sB, gJ_sB, gR_sB, gA_sB, gB_sB, gT_sB, zx_il0, zx_il1, zx_il2, zx_il3, zx_ll0, zx_ll1, zx_ll2, zx_ll3, zx_al0, zx_al1, zx_al2, zx_al3, e_has, e_bA, e_mn, e_mx, e_pcI, e_pcL, e_low, tc0, tc1, tc2, tc3, vc0_2, vc1_2, vc0_3, vc1_3, vc2_3, vc0_4, vc1_4, vc2_4, vc3_4, m_in, i10, i20, i00, i11, true_or, false_or, Bool.true_eq_false, eq_self, zml_278, zg278_0, zb278_0, zg278_22, zb278_22, zg278_24, zb278_24, zb278_30, zg278_56, zb278_56, zg278_106, zb278_106, zg278_129, zb278_129, zg278_133, zb278_133, zg278_134, zb278_134, zg278_136, zb278_136, zg278_142, zb278_142, zmc_224, zms_224, zow_224, zhd_224, zmc_225, zms_225, zow_225, zhd_225, zmc_277, zms_277, zow_277, zhd_277, zmc_214, zms_214, zow_214, zhd_214, zmc_278, zms_278, zow_278, zhd_278, zmc_216, zms_216, zow_216, zhd_216, ↓gf_11_10, ↓gf_11_46, ↓gv_11, show ztg 100 6 = 106 from rfl, show ztg 103 33 = 136 from rfl, show ztg 120 9 = 129 from rfl, show ztg 126 7 = 133 from rfl, show ztg 130 4 = 134 from rfl, show ztg 139 (-109) = 30 from rfl, show ztg 19 5 = 24 from rfl, show ztg 40 102 = 142 from rfl, show ztg 5 17 = 22 from rfl, show ztg 50 6 = 56 from rfl, show ztg 53 83 = 136 from rfl, LM_d hL, LM_r46 hL, LM_k46 hL, LM_n46 hL, LM_r10 hL, LM_k10 hL, LM_n10 hL, MT_1 hT]
      try simp (disch := omega) only [ii_lt, ii_le, ii_eq, ii_eq0, ii_lt0, ii_0lt, ii_le0, ii_0le, i_inT, i_natN, i_nat, ia_div, ia_rem, hs_ofI, i_1shl, i_or, i_bit, true_and, and_true, not_true_eq_false, not_false_eq_true, true_implies, false_implies, implies_true, Int.reduceLT, Int.reduceLE, Int.reduceEq, Int.reduceNeg, Int.toNat_natCast, Int.reduceToNat, Nat.reduceLeDiff, Nat.reduceAdd, tn_2, tn_2p, tn_48, tn_48r, tn_3, tn_3p, tn_3q, tn_p1, tn_d2, tn_12, ia_add, ia_sub, ia_mul]
      refine ⟨fun _ => ?_, fun z => by omega⟩
      refine hQ x v2 τ fz2 hv2 hs2 hle hlow hx1 (fun z => ⟨(hx0 z).1, fun b hb => (hx0 z).2 b ?_ hb⟩)
      have := isA_lt (hR.2 a b hb).2
      omega
    have wj := wf_bg hw cj
    have nxt : ¬ (R a j = true ∧ v2 a K + ln T j < v2 j (K ||| bxs m.testBit (en T j))) → zfp zP (zcall zP 278) 278 Q 30 [(0, .ref 88), (1, .int (Int32.ofInt a)), (2, .int (Int32.ofInt K)), (3, .int (Int32.ofInt m)), (4, .int (bI x)), (5, .int (Int32.ofInt ((j + 1 : Nat) : Int)))] [] (hOf τ) 0 0 := by
      intro z
      refine ih cj x v2 τ fz2 hv2 hs2 hle hlow hx1 (fun z2 => ⟨(hx0 z2).1, fun b hb hb2 => ?_⟩)
      by_cases e : b = j
      · rw [e] at hb2 ⊢
        apply Classical.byContradiction
        intro z3
        exact z ⟨hb2, by omega⟩
      · exact (hx0 z2).2 b (by omega) hb2
    cases eR : R a j with
    | false =>
      simp -implicitDefEqProofs only [zx_iconst, zx_bipush, zx_sipush, zx_lconst, zx_ldc, zx_ldcS, zx_ldc_w, zx_ldc2_w, zx_iload, zx_lload, zx_aload, zx_istore_n, zx_istore, zx_lstore_n, zx_lstore, zx_astore_n, zx_astore, zx_iinc, zx_iadd, zx_isub, zx_imul, zx_iand, zx_ior, zx_ixor, zx_ishl, zx_ishr, zx_iushr, zx_idiv, zx_irem, zx_ineg, zx_ladd, zx_lsub, zx_land, zx_lor, zx_lxor, zx_lneg, zx_lshl, zx_lushr, zx_i2l, zx_l2i, zx_lcmp, zx_dup, zx_dup2, zx_pop, zx_goto, zx_if_eq, zx_if_ne, zx_if_lt, zx_if_ge, zx_if_gt, zx_if_le, zx_icmp_eq, zx_icmp_ne, zx_icmp_lt, zx_icmp_ge, zx_icmp_gt, zx_icmp_le, zx_getfield, zx_putfield, zx_iaload, zx_laload, zx_aaload, zx_iastore, zx_lastore, zx_arraylength, zx_ireturn, zx_lreturn, zx_areturn, zx_return, zx_athrow, zx_static0, zx_static1, zx_virt1, zx_static2, zx_virt2, zx_static3, zx_virt3, zx_static4, zx_virt4, zx_static5, zx_virt5, zx_static6, zx_virt6, zx_static7, zx_virt7, zx_cpI, zx_cpL, ↓cpI, ↓cpL, zx_slen, zx_schr, zx_tsw, zx_spec3, new_X, zx_new1, zrun_nil, zrun_cons, ↓zgi_h, ↓zgi_n, ↓zgl_h, ↓zgl_n, ↓zgr_h, ↓zgr_n, zset1, zset2, zins_nil, zins_c, f3, cat_i, cat_l, cat_r, List.filter_cons, List.filter_nil, Bool.false_eq_true, l_of0, lv_args, Nat.reduceBEq, Nat.reduceAdd, Nat.reduceLeDiff, Nat.reduceLT, Bool.not_true, Bool.not_false, Bool.and_true, Bool.true_and, Bool.and_false, Bool.false_and, Nat.reduceEqDiff, reduceIte, List.contains_cons, List.contains_nil, Bool.or_false, Bool.or_true, Bool.false_or, Bool.true_or, Fin.isValue, Fin.val_zero, Fin.val_one, Fin.val_two, Fin.reduceFinMk, Option.toList_some, Option.toList_none, List.nil_append, List.cons_append, zwt_nil, zwt_i, zwt_l, zwt_r, zthr_nil, List.isEmpty_nil, zcE, ↓ar_k, lgc0, true_and, and_true, true_implies, implies_true, false_implies, forall_const, i_len, ob_0, ob_1, ↓bI_01, bI_0, not_true_eq_false, not_false_eq_true, Bool.not_eq_false, Bool.not_eq_true, ia_add, ia_sub, ia_mul, ia_neg, ↓ldI, ↓ldL, zaI_c, zaL_c, ↓zlen_I, ↓zlen_L, ↓stI, ↓stL, gD_sI, gN_sI, gI_sI, gJ_sI, gR_sI, gA_sI, gB_sI, gT_sI, gD_sJ, gN_sJ, gI_sJ, gJ_sJ, gR_sJ, gA_sJ, gB_sJ, gT_sJ, gD_sR, gN_sR, gI_sR, gJ_sR, gR_sR, gA_sR, gB_sR, gT_sR, gD_sA, gN_sA, gI_sA, gJ_sA, gR_sA, gA_sA, gB_sA, gT_sA, gD_sB, gN_sB, gI_sB, gJ_sB, gR_sB, gA_sB, gB_sB, gT_sB, zx_il0, zx_il1, zx_il2, zx_il3, zx_ll0, zx_ll1, zx_ll2, zx_ll3, zx_al0, zx_al1, zx_al2, zx_al3, e_has, e_bA, e_mn, e_mx, e_pcI, e_pcL, e_low, tc0, tc1, tc2, tc3, vc0_2, vc1_2, vc0_3, vc1_3, vc2_3, vc0_4, vc1_4, vc2_4, vc3_4, m_in, i10, i20, i00, i11, true_or, false_or, Bool.true_eq_false, eq_self, zml_278, zg278_0, zb278_0, zg278_22, zb278_22, zg278_24, zb278_24, zb278_30, zg278_56, zb278_56, zg278_106, zb278_106, zg278_129, zb278_129, zg278_133, zb278_133, zg278_134, zb278_134, zg278_136, zb278_136, zg278_142, zb278_142, zmc_224, zms_224, zow_224, zhd_224, zmc_225, zms_225, zow_225, zhd_225, zmc_277, zms_277, zow_277, zhd_277, zmc_214, zms_214, zow_214, zhd_214, zmc_278, zms_278, zow_278, zhd_278, zmc_216, zms_216, zow_216, zhd_216, ↓gf_11_10, ↓gf_11_46, ↓gv_11, show ztg 100 6 = 106 from rfl, show ztg 103 33 = 136 from rfl, show ztg 120 9 = 129 from rfl, show ztg 126 7 = 133 from rfl, show ztg 130 4 = 134 from rfl, show ztg 139 (-109) = 30 from rfl, show ztg 19 5 = 24 from rfl, show ztg 40 102 = 142 from rfl, show ztg 5 17 = 22 from rfl, show ztg 50 6 = 56 from rfl, show ztg 53 83 = 136 from rfl, LM_d hL, LM_r46 hL, LM_k46 hL, LM_n46 hL, LM_r10 hL, LM_k10 hL, LM_n10 hL, MT_1 hT, m_after hT hw hRt ha (show j < 48 from by omega), eR, bIf, i00]
      try simp (disch := omega) only [ii_lt, ii_le, ii_eq, ii_eq0, ii_lt0, ii_0lt, ii_le0, ii_0le, i_inT, i_natN, i_nat, ia_div, ia_rem, hs_ofI, i_1shl, i_or, i_bit, true_and, and_true, not_true_eq_false, not_false_eq_true, true_implies, false_implies, implies_true, Int.reduceLT, Int.reduceLE, Int.reduceEq, Int.reduceNeg, Int.toNat_natCast, Int.reduceToNat, Nat.reduceLeDiff, Nat.reduceAdd, tn_2, tn_2p, tn_48, tn_48r, tn_3, tn_3p, tn_3q, tn_p1, tn_d2, tn_12, ia_add, ia_sub, ia_mul]
      exact ⟨fun z => by omega, fun _ => nxt (fun z => by rw [eR] at z; cases z.1)⟩
    | true =>
      have tl : K ||| bxs m.testBit (en T j) < 2 ^ N := Nat.or_lt_two_pow hK (bxs_lt wj.2.1 hN)
      have tk : K ≤ K ||| bxs m.testBit (en T j) := Nat.left_le_or
      have eo : Int32.ofInt (K : Int) ||| Int32.ofInt ((bxs m.testBit (en T j) : Nat) : Int) = Int32.ofInt ((K ||| bxs m.testBit (en T j) : Nat) : Int) := i_or
      have wr0 : v2 a K + ln T j < v2 j (K ||| bxs m.testBit (en T j)) → ∀ y : Bool, (y = true → x = true ∨ K ||| bxs m.testBit (en T j) = K) → (y = false → x = false ∧ K ||| bxs m.testBit (en T j) ≠ K) → zfp zP (zcall zP 278) 278 Q 30 [(0, .ref 88), (1, .int (Int32.ofInt a)), (2, .int (Int32.ofInt K)), (3, .int (Int32.ofInt m)), (4, .int (bI y)), (5, .int (Int32.ofInt ((j + 1 : Nat) : Int)))] [] (hOf (sA τ (1216 + j) (upd (gA τ (1216 + j)) (K ||| bxs m.testBit (en T j)) (Int32.ofInt ((v2 a K + ln T j : Nat) : Int))))) 0 0 := by
        intro lt y hy1 hy0
        generalize et : K ||| bxs m.testBit (en T j) = t at *
        have k1 := hv2.1 a K ha hK
        have k2 := hv2.1 j t cj tl
        have k3 := hle a K
        obtain ⟨n, hn⟩ := k1.2 (by omega)
        have bd : v2 a K + ln T j ≤ 1000000000 := by omega
        refine ih cj y (u2 v2 j t (v2 a K + ln T j)) _ (fz_trans fz2 (fz_sA (by omega))) (RB_w hv2 lt bd ⟨n + 1, a, K, v2 a K, hn, eR, et.symm, rfl⟩) (RSq_w hs2) (fun b S => Nat.le_trans (u2_le lt b S) (hle b S)) (fun b S hS => ?_) (fun z => ?_) (fun z => ?_)
        · show (if b = j ∧ S = t then _ else _) = _
          rw [if_neg (fun q => by omega)]
          exact hlow b S hS
        · by_cases etK : t = K
          · have d1 : su (fun b => u2 v2 j t (v2 a K + ln T j) b K) (2 * nS T) < su (fun b => v2 b K) (2 * nS T) := by
              refine su_lt (i := j) ?_ (fun b hb => ?_) _ cj
              · show (if j = j ∧ K = t then _ else _) < _
                rw [if_pos ⟨rfl, etK.symm⟩, ← etK]
                rw [etK]
                rw [etK] at lt
                exact lt
              · show (if b = j ∧ K = t then _ else _) = _
                rw [if_neg (fun q => hb q.1)]
            have d2 : su (fun b => v2 b K) (2 * nS T) ≤ su (fun b => v b K) (2 * nS T) := by
              cases x with
              | true => exact Nat.le_of_lt (hx1 rfl)
              | false => exact Nat.le_of_eq (su_eq _ (fun b _ => (hx0 rfl).1 b))
            exact Nat.lt_of_lt_of_le d1 d2
          · have hx : x = true := (hy1 z).elim id (fun q => absurd q etK)
            refine Nat.lt_of_le_of_lt (Nat.le_of_eq (su_eq _ (fun b _ => ?_))) (hx1 hx)
            show (if b = j ∧ K = t then _ else _) = _
            rw [if_neg (fun q => etK q.2.symm)]
        · obtain ⟨z1, z2⟩ := hy0 z
          have same : ∀ b, u2 v2 j t (v2 a K + ln T j) b K = v2 b K := by
            intro b
            show (if b = j ∧ K = t then _ else _) = _
            rw [if_neg (fun q => z2 q.2.symm)]
          refine ⟨fun b => by rw [same b]; exact (hx0 z1).1 b, fun b hb hb2 => ?_⟩
          rw [same a]
          by_cases e : b = j
          · rw [e, et]
            show (if j = j ∧ t = t then _ else _) ≤ _
            rw [if_pos ⟨rfl, rfl⟩]
            exact Nat.le_refl _
          · exact Nat.le_trans (u2_le lt b _) ((hx0 z1).2 b (by omega) hb2)
      generalize et : K ||| bxs m.testBit (en T j) = t at *
      have t10 : t < 1024 := by omega
      have K10 : K < 1024 := by omega
      have g1 := hs2 a K ha hK
      have g2 := hs2 j t cj tl
      have b1 := (hv2.1 a K ha hK).1
      have b2 := (hv2.1 j t cj tl).1
      simp -implicitDefEqProofs only [zx_iconst, zx_bipush, zx_sipush, zx_lconst, zx_ldc, zx_ldcS, zx_ldc_w, zx_ldc2_w, zx_iload, zx_lload, zx_aload, zx_istore_n, zx_istore, zx_lstore_n, zx_lstore, zx_astore_n, zx_astore, zx_iinc, zx_iadd, zx_isub, zx_imul, zx_iand, zx_ior, zx_ixor, zx_ishl, zx_ishr, zx_iushr, zx_idiv, zx_irem, zx_ineg, zx_ladd, zx_lsub, zx_land, zx_lor, zx_lxor, zx_lneg, zx_lshl, zx_lushr, zx_i2l, zx_l2i, zx_lcmp, zx_dup, zx_dup2, zx_pop, zx_goto, zx_if_eq, zx_if_ne, zx_if_lt, zx_if_ge, zx_if_gt, zx_if_le, zx_icmp_eq, zx_icmp_ne, zx_icmp_lt, zx_icmp_ge, zx_icmp_gt, zx_icmp_le, zx_getfield, zx_putfield, zx_iaload, zx_laload, zx_aaload, zx_iastore, zx_lastore, zx_arraylength, zx_ireturn, zx_lreturn, zx_areturn, zx_return, zx_athrow, zx_static0, zx_static1, zx_virt1, zx_static2, zx_virt2, zx_static3, zx_virt3, zx_static4, zx_virt4, zx_static5, zx_virt5, zx_static6, zx_virt6, zx_static7, zx_virt7, zx_cpI, zx_cpL, ↓cpI, ↓cpL, zx_slen, zx_schr, zx_tsw, zx_spec3, new_X, zx_new1, zrun_nil, zrun_cons, ↓zgi_h, ↓zgi_n, ↓zgl_h, ↓zgl_n, ↓zgr_h, ↓zgr_n, zset1, zset2, zins_nil, zins_c, f3, cat_i, cat_l, cat_r, List.filter_cons, List.filter_nil, Bool.false_eq_true, l_of0, lv_args, Nat.reduceBEq, Nat.reduceAdd, Nat.reduceLeDiff, Nat.reduceLT, Bool.not_true, Bool.not_false, Bool.and_true, Bool.true_and, Bool.and_false, Bool.false_and, Nat.reduceEqDiff, reduceIte, List.contains_cons, List.contains_nil, Bool.or_false, Bool.or_true, Bool.false_or, Bool.true_or, Fin.isValue, Fin.val_zero, Fin.val_one, Fin.val_two, Fin.reduceFinMk, Option.toList_some, Option.toList_none, List.nil_append, List.cons_append, zwt_nil, zwt_i, zwt_l, zwt_r, zthr_nil, List.isEmpty_nil, zcE, ↓ar_k, lgc0, true_and, and_true, true_implies, implies_true, false_implies, forall_const, i_len, ob_0, ob_1, ↓bI_01, bI_0, not_true_eq_false, not_false_eq_true, Bool.not_eq_false, Bool.not_eq_true, ia_add, ia_sub, ia_mul, ia_neg, ↓ldI, ↓ldL, zaI_c, zaL_c, ↓zlen_I, ↓zlen_L, ↓stI, ↓stL, gD_sI, gN_sI, gI_sI, gJ_sI, gR_sI, gA_sI, gB_sI, gT_sI, gD_sJ, gN_sJ, gI_sJ, gJ_sJ, gR_sJ, gA_sJ, gB_sJ, gT_sJ, gD_sR, gN_sR, gI_sR, gJ_sR, gR_sR, gA_sR, gB_sR, gT_sR, gD_sA, gN_sA, gI_sA, gJ_sA, gR_sA, gA_sA, gB_sA, gT_sA, gD_sB, gN_sB, gI_sB, gJ_sB, gR_sB, gA_sB, gB_sB, gT_sB, zx_il0, zx_il1, zx_il2, zx_il3, zx_ll0, zx_ll1, zx_ll2, zx_ll3, zx_al0, zx_al1, zx_al2, zx_al3, e_has, e_bA, e_mn, e_mx, e_pcI, e_pcL, e_low, tc0, tc1, tc2, tc3, vc0_2, vc1_2, vc0_3, vc1_3, vc2_3, vc0_4, vc1_4, vc2_4, vc3_4, m_in, i10, i20, i00, i11, true_or, false_or, Bool.true_eq_false, eq_self, zml_278, zg278_0, zb278_0, zg278_22, zb278_22, zg278_24, zb278_24, zb278_30, zg278_56, zb278_56, zg278_106, zb278_106, zg278_129, zb278_129, zg278_133, zb278_133, zg278_134, zb278_134, zg278_136, zb278_136, zg278_142, zb278_142, zmc_224, zms_224, zow_224, zhd_224, zmc_225, zms_225, zow_225, zhd_225, zmc_277, zms_277, zow_277, zhd_277, zmc_214, zms_214, zow_214, zhd_214, zmc_278, zms_278, zow_278, zhd_278, zmc_216, zms_216, zow_216, zhd_216, ↓gf_11_10, ↓gf_11_46, ↓gv_11, show ztg 100 6 = 106 from rfl, show ztg 103 33 = 136 from rfl, show ztg 120 9 = 129 from rfl, show ztg 126 7 = 133 from rfl, show ztg 130 4 = 134 from rfl, show ztg 139 (-109) = 30 from rfl, show ztg 19 5 = 24 from rfl, show ztg 40 102 = 142 from rfl, show ztg 5 17 = 22 from rfl, show ztg 50 6 = 56 from rfl, show ztg 53 83 = 136 from rfl, LM_d hL, LM_r46 hL, LM_k46 hL, LM_n46 hL, LM_r10 hL, LM_k10 hL, LM_n10 hL, MT_1 hT, m_after hT hw hRt ha (show j < 48 from by omega), m_end hT hw cj, eR, bIt, i10]
      try simp (disch := omega) only [ii_lt, ii_le, ii_eq, ii_eq0, ii_lt0, ii_0lt, ii_le0, ii_0le, i_inT, i_natN, i_nat, ia_div, ia_rem, hs_ofI, i_1shl, i_or, i_bit, true_and, and_true, not_true_eq_false, not_false_eq_true, true_implies, false_implies, implies_true, Int.reduceLT, Int.reduceLE, Int.reduceEq, Int.reduceNeg, Int.toNat_natCast, Int.reduceToNat, Nat.reduceLeDiff, Nat.reduceAdd, tn_2, tn_2p, tn_48, tn_48r, tn_3, tn_3p, tn_3q, tn_p1, tn_d2, tn_12, ia_add, ia_sub, ia_mul]
      refine ⟨fun z => by omega, fun _ => ?_⟩
      refine m_boxAt hm (by omega) ?_
      simp -implicitDefEqProofs only [zx_iconst, zx_bipush, zx_sipush, zx_lconst, zx_ldc, zx_ldcS, zx_ldc_w, zx_ldc2_w, zx_iload, zx_lload, zx_aload, zx_istore_n, zx_istore, zx_lstore_n, zx_lstore, zx_astore_n, zx_astore, zx_iinc, zx_iadd, zx_isub, zx_imul, zx_iand, zx_ior, zx_ixor, zx_ishl, zx_ishr, zx_iushr, zx_idiv, zx_irem, zx_ineg, zx_ladd, zx_lsub, zx_land, zx_lor, zx_lxor, zx_lneg, zx_lshl, zx_lushr, zx_i2l, zx_l2i, zx_lcmp, zx_dup, zx_dup2, zx_pop, zx_goto, zx_if_eq, zx_if_ne, zx_if_lt, zx_if_ge, zx_if_gt, zx_if_le, zx_icmp_eq, zx_icmp_ne, zx_icmp_lt, zx_icmp_ge, zx_icmp_gt, zx_icmp_le, zx_getfield, zx_putfield, zx_iaload, zx_laload, zx_aaload, zx_iastore, zx_lastore, zx_arraylength, zx_ireturn, zx_lreturn, zx_areturn, zx_return, zx_athrow, zx_static0, zx_static1, zx_virt1, zx_static2, zx_virt2, zx_static3, zx_virt3, zx_static4, zx_virt4, zx_static5, zx_virt5, zx_static6, zx_virt6, zx_static7, zx_virt7, zx_cpI, zx_cpL, ↓cpI, ↓cpL, zx_slen, zx_schr, zx_tsw, zx_spec3, new_X, zx_new1, zrun_nil, zrun_cons, ↓zgi_h, ↓zgi_n, ↓zgl_h, ↓zgl_n, ↓zgr_h, ↓zgr_n, zset1, zset2, zins_nil, zins_c, f3, cat_i, cat_l, cat_r, List.filter_cons, List.filter_nil, Bool.false_eq_true, l_of0, lv_args, Nat.reduceBEq, Nat.reduceAdd, Nat.reduceLeDiff, Nat.reduceLT, Bool.not_true, Bool.not_false, Bool.and_true, Bool.true_and, Bool.and_false, Bool.false_and, Nat.reduceEqDiff, reduceIte, List.contains_cons, List.contains_nil, Bool.or_false, Bool.or_true, Bool.false_or, Bool.true_or, Fin.isValue, Fin.val_zero, Fin.val_one, Fin.val_two, Fin.reduceFinMk, Option.toList_some, Option.toList_none, List.nil_append, List.cons_append, zwt_nil, zwt_i, zwt_l, zwt_r, zthr_nil, List.isEmpty_nil, zcE, ↓ar_k, lgc0, true_and, and_true, true_implies, implies_true, false_implies, forall_const, i_len, ob_0, ob_1, ↓bI_01, bI_0, not_true_eq_false, not_false_eq_true, Bool.not_eq_false, Bool.not_eq_true, ia_add, ia_sub, ia_mul, ia_neg, ↓ldI, ↓ldL, zaI_c, zaL_c, ↓zlen_I, ↓zlen_L, ↓stI, ↓stL, gD_sI, gN_sI, gI_sI, gJ_sI, gR_sI, gA_sI, gB_sI, gT_sI, gD_sJ, gN_sJ, gI_sJ, gJ_sJ, gR_sJ, gA_sJ, gB_sJ, gT_sJ, gD_sR, gN_sR, gI_sR, gJ_sR, gR_sR, gA_sR, gB_sR, gT_sR, gD_sA, gN_sA, gI_sA, gJ_sA, gR_sA, gA_sA, gB_sA, gT_sA, gD_sB, gN_sB, gI_sB, gJ_sB, gR_sB, gA_sB, gB_sB, gT_sB, zx_il0, zx_il1, zx_il2, zx_il3, zx_ll0, zx_ll1, zx_ll2, zx_ll3, zx_al0, zx_al1, zx_al2, zx_al3, e_has, e_bA, e_mn, e_mx, e_pcI, e_pcL, e_low, tc0, tc1, tc2, tc3, vc0_2, vc1_2, vc0_3, vc1_3, vc2_3, vc0_4, vc1_4, vc2_4, vc3_4, m_in, i10, i20, i00, i11, true_or, false_or, Bool.true_eq_false, eq_self, zml_278, zg278_0, zb278_0, zg278_22, zb278_22, zg278_24, zb278_24, zb278_30, zg278_56, zb278_56, zg278_106, zb278_106, zg278_129, zb278_129, zg278_133, zb278_133, zg278_134, zb278_134, zg278_136, zb278_136, zg278_142, zb278_142, zmc_224, zms_224, zow_224, zhd_224, zmc_225, zms_225, zow_225, zhd_225, zmc_277, zms_277, zow_277, zhd_277, zmc_214, zms_214, zow_214, zhd_214, zmc_278, zms_278, zow_278, zhd_278, zmc_216, zms_216, zow_216, zhd_216, ↓gf_11_10, ↓gf_11_46, ↓gv_11, show ztg 100 6 = 106 from rfl, show ztg 103 33 = 136 from rfl, show ztg 120 9 = 129 from rfl, show ztg 126 7 = 133 from rfl, show ztg 130 4 = 134 from rfl, show ztg 139 (-109) = 30 from rfl, show ztg 19 5 = 24 from rfl, show ztg 40 102 = 142 from rfl, show ztg 5 17 = 22 from rfl, show ztg 50 6 = 56 from rfl, show ztg 53 83 = 136 from rfl, LM_d hL, LM_r46 hL, LM_k46 hL, LM_n46 hL, LM_r10 hL, LM_k10 hL, LM_n10 hL, eo, m_long hT hw cj, i_natN (a := a) (by omega), i_inT (a := ((a : Nat) : Int)) (n := 48) (by omega) (by omega), i_natN (a := j) (by omega), i_inT (a := ((j : Nat) : Int)) (n := 48) (by omega) (by omega), i_natN (a := K) (by omega), i_inT (a := ((K : Nat) : Int)) (n := 1024) (by omega) (by omega), i_natN (a := t) (by omega), i_inT (a := ((t : Nat) : Int)) (n := 1024) (by omega) (by omega), LM_p46 hL a (by omega), LM_q46 hL a (by omega), LM_p46 hL j (by omega), LM_q46 hL j (by omega), g1, g2, eq_true (show 16 ≤ 1216 + j from by omega)]
      try simp (disch := omega) only [ii_lt, ii_le, ii_eq, ii_eq0, ii_lt0, ii_0lt, ii_le0, ii_0le, i_inT, i_natN, i_nat, ia_div, ia_rem, hs_ofI, i_1shl, i_or, i_bit, true_and, and_true, not_true_eq_false, not_false_eq_true, true_implies, false_implies, implies_true, Int.reduceLT, Int.reduceLE, Int.reduceEq, Int.reduceNeg, Int.toNat_natCast, Int.reduceToNat, Nat.reduceLeDiff, Nat.reduceAdd, tn_2, tn_2p, tn_48, tn_48r, tn_3, tn_3p, tn_3q, tn_p1, tn_d2, tn_12, ia_add, ia_sub, ia_mul]
      refine ⟨fun z => ?_, fun z => nxt (fun q => by omega)⟩
      have lt : v2 a K + ln T j < v2 j t := by omega
      have wr := wr0 lt
      refine ⟨fun z2 => ?_, fun z2 => ⟨fun z3 => ?_, fun z3 => ?_⟩⟩
      · cases x with
        | true => exact wr true (fun _ => .inl rfl) (fun q => by cases q)
        | false => cases z2
      · cases x with
        | true => cases z2
        | false => exact wr false (fun q => by cases q) (fun _ => ⟨rfl, by omega⟩)
      · exact wr true (fun _ => .inr (by omega)) (fun q => by cases q)
  have hL := MT_L h
  have b1 := hv.1 a K ha hK
  have g1 := hs a K ha hK
  have K10 : K < 1024 := by omega
  have zero : (∀ b, R a b = true → v a K = 1000000000) → Q (.inl (some (.int (bI false)))) (hOf σ) := by
    intro z
    refine hQ false v σ fz_refl hv hs (fun _ _ => Nat.le_refl _) (fun _ _ _ => rfl) (fun q => by cases q) (fun _ => ⟨fun _ => rfl, fun b hb => ?_⟩)
    have lb := isA_lt (hR.2 a b hb).2
    have := (hv.1 b (K ||| bxs m.testBit (en T b)) lb (Nat.or_lt_two_pow hK (bxs_lt (wf_bg hw lb).2.1 hN))).1
    have := z b hb
    omega
  have hA : ∀ Q : zQ, zW zP 214 [.ref 88, .int (Int32.ofInt a)] (hOf σ) Q = Q (.inl (some (.int (bI (isA T a))))) (hOf σ) := fun Q => m_arc h hw (by omega)
  cases eA : isA T a with
  | false =>
    simp -implicitDefEqProofs only [zx_iconst, zx_bipush, zx_sipush, zx_lconst, zx_ldc, zx_ldcS, zx_ldc_w, zx_ldc2_w, zx_iload, zx_lload, zx_aload, zx_istore_n, zx_istore, zx_lstore_n, zx_lstore, zx_astore_n, zx_astore, zx_iinc, zx_iadd, zx_isub, zx_imul, zx_iand, zx_ior, zx_ixor, zx_ishl, zx_ishr, zx_iushr, zx_idiv, zx_irem, zx_ineg, zx_ladd, zx_lsub, zx_land, zx_lor, zx_lxor, zx_lneg, zx_lshl, zx_lushr, zx_i2l, zx_l2i, zx_lcmp, zx_dup, zx_dup2, zx_pop, zx_goto, zx_if_eq, zx_if_ne, zx_if_lt, zx_if_ge, zx_if_gt, zx_if_le, zx_icmp_eq, zx_icmp_ne, zx_icmp_lt, zx_icmp_ge, zx_icmp_gt, zx_icmp_le, zx_getfield, zx_putfield, zx_iaload, zx_laload, zx_aaload, zx_iastore, zx_lastore, zx_arraylength, zx_ireturn, zx_lreturn, zx_areturn, zx_return, zx_athrow, zx_static0, zx_static1, zx_virt1, zx_static2, zx_virt2, zx_static3, zx_virt3, zx_static4, zx_virt4, zx_static5, zx_virt5, zx_static6, zx_virt6, zx_static7, zx_virt7, zx_cpI, zx_cpL, ↓cpI, ↓cpL, zx_slen, zx_schr, zx_tsw, zx_spec3, new_X, zx_new1, zrun_nil, zrun_cons, ↓zgi_h, ↓zgi_n, ↓zgl_h, ↓zgl_n, ↓zgr_h, ↓zgr_n, zset1, zset2, zins_nil, zins_c, f3, cat_i, cat_l, cat_r, List.filter_cons, List.filter_nil, Bool.false_eq_true, l_of0, lv_args, Nat.reduceBEq, Nat.reduceAdd, Nat.reduceLeDiff, Nat.reduceLT, Bool.not_true, Bool.not_false, Bool.and_true, Bool.true_and, Bool.and_false, Bool.false_and, Nat.reduceEqDiff, reduceIte, List.contains_cons, List.contains_nil, Bool.or_false, Bool.or_true, Bool.false_or, Bool.true_or, Fin.isValue, Fin.val_zero, Fin.val_one, Fin.val_two, Fin.reduceFinMk, Option.toList_some, Option.toList_none, List.nil_append, List.cons_append, zwt_nil, zwt_i, zwt_l, zwt_r, zthr_nil, List.isEmpty_nil, zcE, ↓ar_k, lgc0, true_and, and_true, true_implies, implies_true, false_implies, forall_const, i_len, ob_0, ob_1, ↓bI_01, bI_0, not_true_eq_false, not_false_eq_true, Bool.not_eq_false, Bool.not_eq_true, ia_add, ia_sub, ia_mul, ia_neg, ↓ldI, ↓ldL, zaI_c, zaL_c, ↓zlen_I, ↓zlen_L, ↓stI, ↓stL, gD_sI, gN_sI, gI_sI, gJ_sI, gR_sI, gA_sI, gB_sI, gT_sI, gD_sJ, gN_sJ, gI_sJ, gJ_sJ, gR_sJ, gA_sJ, gB_sJ, gT_sJ, gD_sR, gN_sR, gI_sR, gJ_sR, gR_sR, gA_sR, gB_sR, gT_sR, gD_sA, gN_sA, gI_sA, gJ_sA, gR_sA, gA_sA, gB_sA, gT_sA, gD_sB, gN_sB, gI_sB, gJ_sB, gR_sB, gA_sB, gB_sB, gT_sB, zx_il0, zx_il1, zx_il2, zx_il3, zx_ll0, zx_ll1, zx_ll2, zx_ll3, zx_al0, zx_al1, zx_al2, zx_al3, e_has, e_bA, e_mn, e_mx, e_pcI, e_pcL, e_low, tc0, tc1, tc2, tc3, vc0_2, vc1_2, vc0_3, vc1_3, vc2_3, vc0_4, vc1_4, vc2_4, vc3_4, m_in, i10, i20, i00, i11, true_or, false_or, Bool.true_eq_false, eq_self, zml_278, zg278_0, zb278_0, zg278_22, zb278_22, zg278_24, zb278_24, zb278_30, zg278_56, zb278_56, zg278_106, zb278_106, zg278_129, zb278_129, zg278_133, zb278_133, zg278_134, zb278_134, zg278_136, zb278_136, zg278_142, zb278_142, zmc_224, zms_224, zow_224, zhd_224, zmc_225, zms_225, zow_225, zhd_225, zmc_277, zms_277, zow_277, zhd_277, zmc_214, zms_214, zow_214, zhd_214, zmc_278, zms_278, zow_278, zhd_278, zmc_216, zms_216, zow_216, zhd_216, ↓gf_11_10, ↓gf_11_46, ↓gv_11, show ztg 100 6 = 106 from rfl, show ztg 103 33 = 136 from rfl, show ztg 120 9 = 129 from rfl, show ztg 126 7 = 133 from rfl, show ztg 130 4 = 134 from rfl, show ztg 139 (-109) = 30 from rfl, show ztg 19 5 = 24 from rfl, show ztg 40 102 = 142 from rfl, show ztg 5 17 = 22 from rfl, show ztg 50 6 = 56 from rfl, show ztg 53 83 = 136 from rfl, LM_d hL, LM_r46 hL, LM_k46 hL, LM_n46 hL, LM_r10 hL, LM_k10 hL, LM_n10 hL, hA, eA, bIf, i00]
    try simp (disch := omega) only [ii_lt, ii_le, ii_eq, ii_eq0, ii_lt0, ii_0lt, ii_le0, ii_0le, i_inT, i_natN, i_nat, ia_div, ia_rem, hs_ofI, i_1shl, i_or, i_bit, true_and, and_true, not_true_eq_false, not_false_eq_true, true_implies, false_implies, implies_true, Int.reduceLT, Int.reduceLE, Int.reduceEq, Int.reduceNeg, Int.toNat_natCast, Int.reduceToNat, Nat.reduceLeDiff, Nat.reduceAdd, tn_2, tn_2p, tn_48, tn_48r, tn_3, tn_3p, tn_3q, tn_p1, tn_d2, tn_12, ia_add, ia_sub, ia_mul]
    exact zero (fun b hb => by have := (hR.2 a b hb).1; rw [eA] at this; cases this)
  | true =>
    simp -implicitDefEqProofs only [zx_iconst, zx_bipush, zx_sipush, zx_lconst, zx_ldc, zx_ldcS, zx_ldc_w, zx_ldc2_w, zx_iload, zx_lload, zx_aload, zx_istore_n, zx_istore, zx_lstore_n, zx_lstore, zx_astore_n, zx_astore, zx_iinc, zx_iadd, zx_isub, zx_imul, zx_iand, zx_ior, zx_ixor, zx_ishl, zx_ishr, zx_iushr, zx_idiv, zx_irem, zx_ineg, zx_ladd, zx_lsub, zx_land, zx_lor, zx_lxor, zx_lneg, zx_lshl, zx_lushr, zx_i2l, zx_l2i, zx_lcmp, zx_dup, zx_dup2, zx_pop, zx_goto, zx_if_eq, zx_if_ne, zx_if_lt, zx_if_ge, zx_if_gt, zx_if_le, zx_icmp_eq, zx_icmp_ne, zx_icmp_lt, zx_icmp_ge, zx_icmp_gt, zx_icmp_le, zx_getfield, zx_putfield, zx_iaload, zx_laload, zx_aaload, zx_iastore, zx_lastore, zx_arraylength, zx_ireturn, zx_lreturn, zx_areturn, zx_return, zx_athrow, zx_static0, zx_static1, zx_virt1, zx_static2, zx_virt2, zx_static3, zx_virt3, zx_static4, zx_virt4, zx_static5, zx_virt5, zx_static6, zx_virt6, zx_static7, zx_virt7, zx_cpI, zx_cpL, ↓cpI, ↓cpL, zx_slen, zx_schr, zx_tsw, zx_spec3, new_X, zx_new1, zrun_nil, zrun_cons, ↓zgi_h, ↓zgi_n, ↓zgl_h, ↓zgl_n, ↓zgr_h, ↓zgr_n, zset1, zset2, zins_nil, zins_c, f3, cat_i, cat_l, cat_r, List.filter_cons, List.filter_nil, Bool.false_eq_true, l_of0, lv_args, Nat.reduceBEq, Nat.reduceAdd, Nat.reduceLeDiff, Nat.reduceLT, Bool.not_true, Bool.not_false, Bool.and_true, Bool.true_and, Bool.and_false, Bool.false_and, Nat.reduceEqDiff, reduceIte, List.contains_cons, List.contains_nil, Bool.or_false, Bool.or_true, Bool.false_or, Bool.true_or, Fin.isValue, Fin.val_zero, Fin.val_one, Fin.val_two, Fin.reduceFinMk, Option.toList_some, Option.toList_none, List.nil_append, List.cons_append, zwt_nil, zwt_i, zwt_l, zwt_r, zthr_nil, List.isEmpty_nil, zcE, ↓ar_k, lgc0, true_and, and_true, true_implies, implies_true, false_implies, forall_const, i_len, ob_0, ob_1, ↓bI_01, bI_0, not_true_eq_false, not_false_eq_true, Bool.not_eq_false, Bool.not_eq_true, ia_add, ia_sub, ia_mul, ia_neg, ↓ldI, ↓ldL, zaI_c, zaL_c, ↓zlen_I, ↓zlen_L, ↓stI, ↓stL, gD_sI, gN_sI, gI_sI, gJ_sI, gR_sI, gA_sI, gB_sI, gT_sI, gD_sJ, gN_sJ, gI_sJ, gJ_sJ, gR_sJ, gA_sJ, gB_sJ, gT_sJ, gD_sR, gN_sR, gI_sR, gJ_sR, gR_sR, gA_sR, gB_sR, gT_sR, gD_sA, gN_sA, gI_sA, gJ_sA, gR_sA, gA_sA, gB_sA, gT_sA, gD_sB, gN_sB, gI_sB, gJ_sB, gR_sB, gA_sB, gB_sB, gT_sB, zx_il0, zx_il1, zx_il2, zx_il3, zx_ll0, zx_ll1, zx_ll2, zx_ll3, zx_al0, zx_al1, zx_al2, zx_al3, e_has, e_bA, e_mn, e_mx, e_pcI, e_pcL, e_low, tc0, tc1, tc2, tc3, vc0_2, vc1_2, vc0_3, vc1_3, vc2_3, vc0_4, vc1_4, vc2_4, vc3_4, m_in, i10, i20, i00, i11, true_or, false_or, Bool.true_eq_false, eq_self, zml_278, zg278_0, zb278_0, zg278_22, zb278_22, zg278_24, zb278_24, zb278_30, zg278_56, zb278_56, zg278_106, zb278_106, zg278_129, zb278_129, zg278_133, zb278_133, zg278_134, zb278_134, zg278_136, zb278_136, zg278_142, zb278_142, zmc_224, zms_224, zow_224, zhd_224, zmc_225, zms_225, zow_225, zhd_225, zmc_277, zms_277, zow_277, zhd_277, zmc_214, zms_214, zow_214, zhd_214, zmc_278, zms_278, zow_278, zhd_278, zmc_216, zms_216, zow_216, zhd_216, ↓gf_11_10, ↓gf_11_46, ↓gv_11, show ztg 100 6 = 106 from rfl, show ztg 103 33 = 136 from rfl, show ztg 120 9 = 129 from rfl, show ztg 126 7 = 133 from rfl, show ztg 130 4 = 134 from rfl, show ztg 139 (-109) = 30 from rfl, show ztg 19 5 = 24 from rfl, show ztg 40 102 = 142 from rfl, show ztg 5 17 = 22 from rfl, show ztg 50 6 = 56 from rfl, show ztg 53 83 = 136 from rfl, LM_d hL, LM_r46 hL, LM_k46 hL, LM_n46 hL, LM_r10 hL, LM_k10 hL, LM_n10 hL, hA, eA, bIt, i10, i_natN (a := a) (by omega), i_inT (a := ((a : Nat) : Int)) (n := 48) (by omega) (by omega), i_natN (a := K) (by omega), i_inT (a := ((K : Nat) : Int)) (n := 1024) (by omega) (by omega), LM_p46 hL a (by omega), LM_q46 hL a (by omega), g1]
    try simp (disch := omega) only [ii_lt, ii_le, ii_eq, ii_eq0, ii_lt0, ii_0lt, ii_le0, ii_0le, i_inT, i_natN, i_nat, ia_div, ia_rem, hs_ofI, i_1shl, i_or, i_bit, true_and, and_true, not_true_eq_false, not_false_eq_true, true_implies, false_implies, implies_true, Int.reduceLT, Int.reduceLE, Int.reduceEq, Int.reduceNeg, Int.toNat_natCast, Int.reduceToNat, Nat.reduceLeDiff, Nat.reduceAdd, tn_2, tn_2p, tn_48, tn_48r, tn_3, tn_3p, tn_3q, tn_p1, tn_d2, tn_12, ia_add, ia_sub, ia_mul]
    refine ⟨fun z => ?_, fun z => ?_⟩
    · exact key (by omega) 0 (by omega) false v σ fz_refl hv hs (fun _ _ => Nat.le_refl _) (fun _ _ _ => rfl) (fun q => by cases q) (fun _ => ⟨fun _ => rfl, fun b hb => by omega⟩)
    · exact zero (fun _ _ => by omega)
