/-! THE ROUND -/
theorem cs3 {u E i : Nat} : (u : Int) * (E : Int) + (i : Int) = ((u * E + i : Nat) : Int) := by
  rw [Int.natCast_add, Int.natCast_mul]
theorem ix_lt {u E i n : Nat} (hu : u < n) (hi : i < E) : u * E + i < n * E := by
  have h1 : (u + 1) * E ≤ n * E := Nat.mul_le_mul_right _ hu
  rw [Nat.succ_mul] at h1
  omega
theorem ix_inj {u v E i j : Nat} (hi : i < E) (hj : j < E) (h : u * E + i = v * E + j) : u = v ∧ i = j := by
  have hE : 0 < E := by omega
  have h1 : (u * E + i) / E = u := by
    rw [Nat.mul_comm, Nat.mul_add_div hE, Nat.div_eq_of_lt hi]
    rfl
  have h2 : (v * E + j) / E = v := by
    rw [Nat.mul_comm, Nat.mul_add_div hE, Nat.div_eq_of_lt hj]
    rfl
  have h3 : u = v := by rw [← h1, h, h2]
  subst h3
  exact ⟨rfl, by omega⟩
/-- the class's table of sets and ending arcs -/
def BB (σ : zS) (b E n : Nat) (V : Nat → Nat → Option Nat) : Prop := ∀ u i, u < n → i < E → gA σ b (u * E + i) = Int32.ofInt (fr 268435456 (V u i))
theorem BB_c {σ : zS} {b E n : Nat} {V W : Nat → Nat → Option Nat} (h : BB σ b E n V) (e : ∀ u i, u < n → i < E → V u i = W u i) : BB σ b E n W := fun u i hu hi => by rw [h u i hu hi, e u i hu hi]
theorem BB_u {σ : zS} {b E n u0 i0 : Nat} {g : Nat → Int32} {x : Int32} {V W : Nat → Nat → Option Nat} (h : BB (sA σ b g) b E n V) (hi0 : i0 < E) (hx : x = Int32.ofInt (fr 268435456 (W u0 i0))) (e : ∀ u i, u < n → i < E → ¬ (u = u0 ∧ i = i0) → V u i = W u i) : BB (sA σ b (upd g (u0 * E + i0) x)) b E n W := by
  intro u i hu hi
  rw [gA_self]
  by_cases h1 : u = u0 ∧ i = i0
  · rw [h1.1, h1.2, upd_s, hx]
  · rw [upd_n (fun z => h1 (ix_inj hi hi0 z))]
    have := h u i hu hi
    rw [gA_self] at this
    rw [this, e u i hu hi h1]
/-- the stop of an ending arc -/
noncomputable def eS (T : Tw) (p : Nat → Bool) (i : Nat) : Nat := cp p (en T (eA T p i))
/-- what is known when the sets below s are through -/
noncomputable def Vs (T : Tw) (R : Nat → Nat → Bool) (p : Nat → Bool) (c s u i : Nat) : Option Nat := @ite _ (u.testBit (eS T p i) = true ∧ u ^^^ 2 ^ eS T p i < s) (Classical.propDecidable _) (rDD T R p c u (eA T p i)) none
theorem Vs_t {T : Tw} {R : Nat → Nat → Bool} {p : Nat → Bool} {c s u i : Nat} (h : u.testBit (eS T p i) = true ∧ u ^^^ 2 ^ eS T p i < s) : Vs T R p c s u i = rDD T R p c u (eA T p i) := by
  unfold Vs
  rw [if_pos h]
theorem Vs_f {T : Tw} {R : Nat → Nat → Bool} {p : Nat → Bool} {c s u i : Nat} (h : ¬ (u.testBit (eS T p i) = true ∧ u ^^^ 2 ^ eS T p i < s)) : Vs T R p c s u i = none := by
  unfold Vs
  rw [if_neg h]
theorem Vs_b {T : Tw} {R : Nat → Nat → Bool} {p : Nat → Bool} {c N s u i x : Nat} (hw : wf T) (hR : ∀ a b, R a b = true → isA T a = true ∧ isA T b = true) (hN : N = cp p (nC T)) (hN32 : N ≤ 16) (hu : u < 2 ^ N) (hi : i < eN T p N) (h : Vs T R p c s u i = some x) : x ≤ 160000 := by
  obtain ⟨e1, e2, e3, e4⟩ := eA_ok hi
  by_cases hc : u.testBit (eS T p i) = true ∧ u ^^^ 2 ^ eS T p i < s
  · rw [Vs_t hc] at h
    have h1 := rDD_b hw hR hN (by omega) u hu _ _ e1 e2 hc.1 h
    have h2 := cn_le (x := u) 32
    omega
  · rw [Vs_f hc] at h
    cases h
noncomputable def Fs (T : Tw) (R : Nat → Nat → Bool) (p : Nat → Bool) (c s j i : Nat) : Option Nat := oa (Vs T R p c s s i) (mI T R (2 * nS T) (eA T p i) (eA T p j))
/-- while the set s is gone through -/
noncomputable def Ps (T : Tw) (R : Nat → Nat → Bool) (p : Nat → Bool) (c s i j0 u j : Nat) : Option Nat := @ite _ (s.testBit (eS T p j) = false ∧ u = s ||| 2 ^ eS T p j) (Classical.propDecidable _) (om (Fs T R p c s j) (if j < j0 then i + 1 else i)) (Vs T R p c s u j)
theorem Ps_t {T : Tw} {R : Nat → Nat → Bool} {p : Nat → Bool} {c s i j0 u j : Nat} (h : s.testBit (eS T p j) = false ∧ u = s ||| 2 ^ eS T p j) : Ps T R p c s i j0 u j = om (Fs T R p c s j) (if j < j0 then i + 1 else i) := by
  unfold Ps
  rw [if_pos h]
theorem Ps_f {T : Tw} {R : Nat → Nat → Bool} {p : Nat → Bool} {c s i j0 u j : Nat} (h : ¬ (s.testBit (eS T p j) = false ∧ u = s ||| 2 ^ eS T p j)) : Ps T R p c s i j0 u j = Vs T R p c s u j := by
  unfold Ps
  rw [if_neg h]
theorem Ps_0 {T : Tw} {R : Nat → Nat → Bool} {p : Nat → Bool} {c s u j : Nat} : Vs T R p c s u j = Ps T R p c s 0 0 u j := by
  by_cases h : s.testBit (eS T p j) = false ∧ u = s ||| 2 ^ eS T p j
  · rw [Ps_t h, if_neg (Nat.not_lt_zero _), om_0, Vs_f]
    intro z
    rw [h.2, or_xor h.1] at z
    omega
  · rw [Ps_f h]
theorem Ps_E {T : Tw} {R : Nat → Nat → Bool} {p : Nat → Bool} {c s u j N : Nat} (hw : wf T) (hR : ∀ a b, R a b = true → isA T a = true ∧ isA T b = true) (hN : N = cp p (nC T)) (hs : s ≠ 0) (hj : j < eN T p N) : Ps T R p c s (eN T p N) 0 u j = Vs T R p c (s + 1) u j := by
  obtain ⟨e1, e2, e3, e4⟩ := eA_ok hj
  by_cases h : s.testBit (eS T p j) = false ∧ u = s ||| 2 ^ eS T p j
  · rw [Ps_t h, if_neg (Nat.not_lt_zero _), Vs_t]
    · rw [h.2]
      symm
      refine rDD_step (a := eA T p j) (ea := eA T p) hR e2 hs h.1 (fun b b1 b2 b3 => eA_ex hw b1 b2 (by rw [hN]; exact cp_N (wf_bg hw (isA_lt b1)).2.1 b2)) _ (fun i hi => ?_)
      unfold Fs
      congr 1
      by_cases h1 : s.testBit (eS T p i) = true
      · rw [Vs_t ⟨h1, (xor_or h1).2.2⟩, if_pos (show s.testBit (cp p (en T (eA T p i))) = true from h1)]
      · rw [Vs_f (fun z => h1 z.1), if_neg (show ¬ s.testBit (cp p (en T (eA T p i))) = true from h1)]
    · rw [h.2, or_xor h.1, Nat.testBit_or, Nat.testBit_two_pow, decide_eq_true rfl, Bool.or_true]
      exact ⟨rfl, by omega⟩
  · rw [Ps_f h]
    by_cases h1 : u.testBit (eS T p j) = true ∧ u ^^^ 2 ^ eS T p j < s
    · rw [Vs_t h1, Vs_t ⟨h1.1, by omega⟩]
    · rw [Vs_f h1, Vs_f]
      intro z
      have hxs : u ^^^ 2 ^ eS T p j = s := by
        have : ¬ u ^^^ 2 ^ eS T p j < s := fun q => h1 ⟨z.1, q⟩
        omega
      obtain ⟨g1, g2, g3⟩ := xor_or z.1
      rw [hxs] at g1 g2
      exact h ⟨g2, g1.symm⟩
theorem u_goF {σ : zS} {t c p b N s : Nat} {T : Tw} {r : Rl} {Q : zQ} (h : QC σ t T r) (hp : PS σ p b) (n2 : gN σ p = 2304) (hM : MX σ p (2 * nS T) (mI T (nx T r) (2 * nS T))) (hN : N = cp (sp T c false) (nC T)) (hN10 : N ≤ 10) (he : EE σ T (sp T c false) (N * 48)) (hb : 2 ^ N * eN T (sp T c false) N ≤ gN σ b) (hs0 : s ≠ 0) (hs : s < 2 ^ N) (hB : BB σ b (eN T (sp T c false) N) (2 ^ N) (Vs T (nx T r) (sp T c false) c s)) (hQ : ∀ g : Nat → Int32, BB (sA σ b g) b (eN T (sp T c false) N) (2 ^ N) (Vs T (nx T r) (sp T c false) c (s + 1)) → Q (.inl none) (hOf (sA σ b g))) : zW zP 134 [.ref 63, .int (Int32.ofInt s)] (hOf σ) Q := by
  have hw := QC_w h
  have h24 := hw.2.1
  have hr := PS_r hp
  have hb16 : 16 ≤ b := by omega
  have h48 := eN_48 (T := T) (p := sp T c false) (N := N) hw
  have p10 : (2 : Nat) ^ N ≤ 1024 := Nat.pow_le_pow_right (n := 2) (by omega) hN10
  have npb : (p = b) = False := eq_false hr.1
  have n67 : (67 = b) = False := eq_false (by omega)
  have n68 : (68 = b) = False := eq_false (by omega)
  have heE : gI σ 63 6 = Int32.ofInt (eN T (sp T c false) N) := he.1
  have hb65 : gN σ b ≤ 65536 := by omega
  generalize hE : eN T (sp T c false) N = E at *
  have hVb : ∀ s2 u i x, u < 2 ^ N → i < E → Vs T (nx T r) (sp T c false) c s2 u i = some x → x ≤ 160000 := fun s2 u i x hu hi hx => Vs_b hw nx_A hN (by omega) hu (by rw [hE]; exact hi) hx
  rw [zWE]
  simp -implicitDefEqProofs only [zx_iconst, zx_bipush, zx_sipush, zx_lconst, zx_ldc, zx_ldcS, zx_ldc_w, zx_ldc2_w, zx_iload, zx_lload, zx_aload, zx_istore_n, zx_istore, zx_lstore_n, zx_lstore, zx_astore_n, zx_astore, zx_iinc, zx_iadd, zx_isub, zx_imul, zx_iand, zx_ior, zx_ixor, zx_ishl, zx_ishr, zx_iushr, zx_idiv, zx_irem, zx_ineg, zx_ladd, zx_lsub, zx_land, zx_lor, zx_lxor, zx_lneg, zx_lshl, zx_lushr, zx_i2l, zx_l2i, zx_lcmp, zx_dup, zx_dup2, zx_pop, zx_goto, zx_if_eq, zx_if_ne, zx_if_lt, zx_if_ge, zx_if_gt, zx_if_le, zx_icmp_eq, zx_icmp_ne, zx_icmp_lt, zx_icmp_ge, zx_icmp_gt, zx_icmp_le, zx_getfield, zx_putfield, zx_iaload, zx_laload, zx_aaload, zx_iastore, zx_lastore, zx_arraylength, zx_ireturn, zx_lreturn, zx_areturn, zx_return, zx_athrow, zx_static0, zx_static1, zx_virt1, zx_static2, zx_virt2, zx_static3, zx_virt3, zx_static4, zx_virt4, zx_static5, zx_virt5, zx_static6, zx_virt6, zx_static7, zx_virt7, zx_cpI, zx_cpL, ↓cpI, ↓cpL, zx_slen, zx_schr, zx_tsw, zx_spec3, new_X, zx_new1, zrun_nil, zrun_cons, ↓zgi_h, ↓zgi_n, ↓zgl_h, ↓zgl_n, ↓zgr_h, ↓zgr_n, zset1, zset2, zins_nil, zins_c, f3, cat_i, cat_l, cat_r, List.filter_cons, List.filter_nil, Bool.false_eq_true, l_of0, lv_args, Nat.reduceBEq, Nat.reduceAdd, Nat.reduceLeDiff, Nat.reduceLT, Bool.not_true, Bool.not_false, Bool.and_true, Bool.true_and, Bool.and_false, Bool.false_and, Nat.reduceEqDiff, reduceIte, List.contains_cons, List.contains_nil, Bool.or_false, Bool.or_true, Bool.false_or, Bool.true_or, Fin.isValue, Fin.val_zero, Fin.val_one, Fin.val_two, Fin.reduceFinMk, Option.toList_some, Option.toList_none, List.nil_append, List.cons_append, zwt_nil, zwt_i, zwt_l, zwt_r, zthr_nil, List.isEmpty_nil, zcE, ↓ar_k, lgc0, true_and, and_true, true_implies, implies_true, false_implies, forall_const, i_len, ob_0, ob_1, ↓bI_01, bI_0, not_true_eq_false, not_false_eq_true, Bool.not_eq_false, Bool.not_eq_true, ia_add, ia_sub, ia_mul, ia_neg, ↓ldI, ↓ldL, zaI_c, zaL_c, ↓zlen_I, ↓zlen_L, ↓stI, ↓stL, gD_sI, gN_sI, gI_sI, gJ_sI, gR_sI, gA_sI, gB_sI, gT_sI, gD_sJ, gN_sJ, gI_sJ, gJ_sJ, gR_sJ, gA_sJ, gB_sJ, gT_sJ, gD_sR, gN_sR, gI_sR, gJ_sR, gR_sR, gA_sR, gB_sR, gT_sR, gD_sA, gN_sA, gI_sA, gJ_sA, gR_sA, gA_sA, gB_sA, gT_sA, gD_sB, gN_sB, gI_sB, gJ_sB, gR_sB, gA_sB, gB_sB, gT_sB, zx_il0, zx_il1, zx_il2, zx_il3, zx_ll0, zx_ll1, zx_ll2, zx_ll3, zx_al0, zx_al1, zx_al2, zx_al3, e_has, e_bA, e_mn, e_mx, e_pcI, e_pcL, e_low, zml_134, zg134_0, zb134_0, zb134_2, zb134_27, zg134_118, zb134_118, zg134_124, zb134_124, zg134_130, zb134_130, zmc_26, zms_26, zow_26, zhd_26, zmc_134, zms_134, zow_134, zhd_134, ↓gf_3_0, ↓gf_3_1, ↓gf_3_4, ↓gf_3_5, ↓gf_3_6, show (Int8.ofInt 48).toInt32 = Int32.ofInt 48 from rfl, show ztg 121 (-94) = 27 from rfl, show ztg 127 (-125) = 2 from rfl, show ztg 33 91 = 124 from rfl, show ztg 39 85 = 124 from rfl, show ztg 53 65 = 118 from rfl, show ztg 7 123 = 130 from rfl, LPost_d (PS_L hp), LPost_r2 (PS_L hp), LPost_k2 (PS_L hp), LPost_n2 (PS_L hp), LPost_r4 (PS_L hp), LPost_k4 (PS_L hp), LPost_n4 (PS_L hp), LPost_r5 (PS_L hp), LPost_k5 (PS_L hp), LPost_n5 (PS_L hp)]
  have key1 : ∀ i : Nat, i ≤ E → ∀ g : Nat → Int32, BB (sA σ b g) b E (2 ^ N) (Ps T (nx T r) (sp T c false) c s i 0) → zfp zP (zcall zP 134) 134 Q 2 [(0, .ref 63), (1, .int (Int32.ofInt s)), (2, .int (Int32.ofInt i))] [] (hOf (sA σ b g)) 0 0 := by
    refine bk _ ?_
    intro i hi ih g hg
    rw [zg134_2]
    simp -implicitDefEqProofs only [zx_iconst, zx_bipush, zx_sipush, zx_lconst, zx_ldc, zx_ldcS, zx_ldc_w, zx_ldc2_w, zx_iload, zx_lload, zx_aload, zx_istore_n, zx_istore, zx_lstore_n, zx_lstore, zx_astore_n, zx_astore, zx_iinc, zx_iadd, zx_isub, zx_imul, zx_iand, zx_ior, zx_ixor, zx_ishl, zx_ishr, zx_iushr, zx_idiv, zx_irem, zx_ineg, zx_ladd, zx_lsub, zx_land, zx_lor, zx_lxor, zx_lneg, zx_lshl, zx_lushr, zx_i2l, zx_l2i, zx_lcmp, zx_dup, zx_dup2, zx_pop, zx_goto, zx_if_eq, zx_if_ne, zx_if_lt, zx_if_ge, zx_if_gt, zx_if_le, zx_icmp_eq, zx_icmp_ne, zx_icmp_lt, zx_icmp_ge, zx_icmp_gt, zx_icmp_le, zx_getfield, zx_putfield, zx_iaload, zx_laload, zx_aaload, zx_iastore, zx_lastore, zx_arraylength, zx_ireturn, zx_lreturn, zx_areturn, zx_return, zx_athrow, zx_static0, zx_static1, zx_virt1, zx_static2, zx_virt2, zx_static3, zx_virt3, zx_static4, zx_virt4, zx_static5, zx_virt5, zx_static6, zx_virt6, zx_static7, zx_virt7, zx_cpI, zx_cpL, ↓cpI, ↓cpL, zx_slen, zx_schr, zx_tsw, zx_spec3, new_X, zx_new1, zrun_nil, zrun_cons, ↓zgi_h, ↓zgi_n, ↓zgl_h, ↓zgl_n, ↓zgr_h, ↓zgr_n, zset1, zset2, zins_nil, zins_c, f3, cat_i, cat_l, cat_r, List.filter_cons, List.filter_nil, Bool.false_eq_true, l_of0, lv_args, Nat.reduceBEq, Nat.reduceAdd, Nat.reduceLeDiff, Nat.reduceLT, Bool.not_true, Bool.not_false, Bool.and_true, Bool.true_and, Bool.and_false, Bool.false_and, Nat.reduceEqDiff, reduceIte, List.contains_cons, List.contains_nil, Bool.or_false, Bool.or_true, Bool.false_or, Bool.true_or, Fin.isValue, Fin.val_zero, Fin.val_one, Fin.val_two, Fin.reduceFinMk, Option.toList_some, Option.toList_none, List.nil_append, List.cons_append, zwt_nil, zwt_i, zwt_l, zwt_r, zthr_nil, List.isEmpty_nil, zcE, ↓ar_k, lgc0, true_and, and_true, true_implies, implies_true, false_implies, forall_const, i_len, ob_0, ob_1, ↓bI_01, bI_0, not_true_eq_false, not_false_eq_true, Bool.not_eq_false, Bool.not_eq_true, ia_add, ia_sub, ia_mul, ia_neg, ↓ldI, ↓ldL, zaI_c, zaL_c, ↓zlen_I, ↓zlen_L, ↓stI, ↓stL, gD_sI, gN_sI, gI_sI, gJ_sI, gR_sI, gA_sI, gB_sI, gT_sI, gD_sJ, gN_sJ, gI_sJ, gJ_sJ, gR_sJ, gA_sJ, gB_sJ, gT_sJ, gD_sR, gN_sR, gI_sR, gJ_sR, gR_sR, gA_sR, gB_sR, gT_sR, gD_sA, gN_sA, gI_sA, gJ_sA, gR_sA, gA_sA, gB_sA, gT_sA, gD_sB, gN_sB, gI_sB, gJ_sB, gR_sB, gA_sB, gB_sB, gT_sB, zx_il0, zx_il1, zx_il2, zx_il3, zx_ll0, zx_ll1, zx_ll2, zx_ll3, zx_al0, zx_al1, zx_al2, zx_al3, e_has, e_bA, e_mn, e_mx, e_pcI, e_pcL, e_low, zml_134, zg134_0, zb134_0, zb134_2, zb134_27, zg134_118, zb134_118, zg134_124, zb134_124, zg134_130, zb134_130, zmc_26, zms_26, zow_26, zhd_26, zmc_134, zms_134, zow_134, zhd_134, ↓gf_3_0, ↓gf_3_1, ↓gf_3_4, ↓gf_3_5, ↓gf_3_6, show (Int8.ofInt 48).toInt32 = Int32.ofInt 48 from rfl, show ztg 121 (-94) = 27 from rfl, show ztg 127 (-125) = 2 from rfl, show ztg 33 91 = 124 from rfl, show ztg 39 85 = 124 from rfl, show ztg 53 65 = 118 from rfl, show ztg 7 123 = 130 from rfl, LPost_d (PS_L hp), LPost_r2 (PS_L hp), LPost_k2 (PS_L hp), LPost_n2 (PS_L hp), LPost_r4 (PS_L hp), LPost_k4 (PS_L hp), LPost_n4 (PS_L hp), LPost_r5 (PS_L hp), LPost_k5 (PS_L hp), LPost_n5 (PS_L hp), PS_b hp, PS_db hp, heE, gA_self]
    try simp (disch := omega) only [ii_lt, ii_le, ii_eq, ii_eq0, ii_lt0, ii_0lt, ii_le0, ii_0le, i_inT, i_natN, i_nat, ia_div, ia_rem, hs_ofI, i_1shl, i_or, i_bit, true_and, and_true, not_true_eq_false, not_false_eq_true, true_implies, false_implies, implies_true, Int.reduceLT, Int.reduceLE, Int.reduceEq, Int.reduceNeg, Int.toNat_natCast, Int.reduceToNat, Nat.reduceLeDiff, Nat.reduceAdd, tn_2, tn_2p, tn_48, tn_48r, tn_3, tn_3p, tn_3q, tn_p1, tn_d2, tn_12, ia_add, ia_sub, ia_mul, cs3]
    try simp only [cs3]
    try simp (disch := omega) only [ii_lt, ii_le, ii_eq, ii_eq0, ii_lt0, ii_0lt, ii_le0, ii_0le, i_inT, i_natN, i_nat, ia_div, ia_rem, hs_ofI, i_1shl, i_or, i_bit, true_and, and_true, not_true_eq_false, not_false_eq_true, true_implies, false_implies, implies_true, Int.reduceLT, Int.reduceLE, Int.reduceEq, Int.reduceNeg, Int.toNat_natCast, Int.reduceToNat, Nat.reduceLeDiff, Nat.reduceAdd, tn_2, tn_2p, tn_48, tn_48r, tn_3, tn_3p, tn_3q, tn_p1, tn_d2, tn_12, ia_add, ia_sub, ia_mul, cs3]
    refine ⟨fun c1 => ?_, fun c1 => ?_⟩
    · refine hQ g (BB_c hg (fun u j hu hj => ?_))
      rw [show i = E from by omega, ← hE]
      exact Ps_E hw nx_A hN hs0 (by rw [hE]; exact hj)
    · have hix := ix_lt (u := s) (E := E) (i := i) hs (by omega)
      have hsi : g (s * E + i) = Int32.ofInt (fr 268435456 (Vs T (nx T r) (sp T c false) c s s i)) := by
        have := hg s i hs (by omega)
        rw [gA_self, Ps_f] at this
        · exact this
        · intro z
          rw [z.2] at z
          have := z.1
          rw [Nat.testBit_or, Nat.testBit_two_pow, decide_eq_true rfl, Bool.or_true] at this
          cases this
      try simp (disch := omega) only [ii_lt, ii_le, ii_eq, ii_eq0, ii_lt0, ii_0lt, ii_le0, ii_0le, i_inT, i_natN, i_nat, ia_div, ia_rem, hs_ofI, i_1shl, i_or, i_bit, true_and, and_true, not_true_eq_false, not_false_eq_true, true_implies, false_implies, implies_true, Int.reduceLT, Int.reduceLE, Int.reduceEq, Int.reduceNeg, Int.toNat_natCast, Int.reduceToNat, Nat.reduceLeDiff, Nat.reduceAdd, tn_2, tn_2p, tn_48, tn_48r, tn_3, tn_3p, tn_3q, tn_p1, tn_d2, tn_12, ia_add, ia_sub, ia_mul, cs3, hsi]
      try simp only [hsi]
      try refine ⟨by omega, ?_⟩
      have hvb := fun x hx => hVb s s i x hs (by omega) hx
      have hfb : fr 268435456 (Vs T (nx T r) (sp T c false) c s s i) ≤ 268435456 := fr_b (fun x hx => by have := hvb x hx; omega)
      have hii := he.2 i (by have := he.1; show i < eN T (sp T c false) N; omega)
      obtain ⟨ai1, ai2, ai3, ai4⟩ := eA_ok (T := T) (p := sp T c false) (N := N) (i := i) (by omega)
      have ail := isA_lt ai1
      have key2 : ∀ j : Nat, j ≤ E → ∀ g2 : Nat → Int32, BB (sA σ b g2) b E (2 ^ N) (Ps T (nx T r) (sp T c false) c s i j) → zfp zP (zcall zP 134) 134 Q 27 [(0, .ref 63), (1, .int (Int32.ofInt s)), (2, .int (Int32.ofInt i)), (3, .int (Int32.ofInt (fr 268435456 (Vs T (nx T r) (sp T c false) c s s i)))), (4, .int (Int32.ofInt j))] [] (hOf (sA σ b g2)) 0 0 := by
        refine bk _ ?_
        intro j hj ih2 g2 hg2
        have omn : ∀ j2, Fs T (nx T r) (sp T c false) c s j2 i = none → om (Fs T (nx T r) (sp T c false) c s j2) (i + 1) = om (Fs T (nx T r) (sp T c false) c s j2) i := by
          intro j2 hn
          rw [om_s, hn, ol_nr]
        rw [zg134_27]
        simp -implicitDefEqProofs only [zx_iconst, zx_bipush, zx_sipush, zx_lconst, zx_ldc, zx_ldcS, zx_ldc_w, zx_ldc2_w, zx_iload, zx_lload, zx_aload, zx_istore_n, zx_istore, zx_lstore_n, zx_lstore, zx_astore_n, zx_astore, zx_iinc, zx_iadd, zx_isub, zx_imul, zx_iand, zx_ior, zx_ixor, zx_ishl, zx_ishr, zx_iushr, zx_idiv, zx_irem, zx_ineg, zx_ladd, zx_lsub, zx_land, zx_lor, zx_lxor, zx_lneg, zx_lshl, zx_lushr, zx_i2l, zx_l2i, zx_lcmp, zx_dup, zx_dup2, zx_pop, zx_goto, zx_if_eq, zx_if_ne, zx_if_lt, zx_if_ge, zx_if_gt, zx_if_le, zx_icmp_eq, zx_icmp_ne, zx_icmp_lt, zx_icmp_ge, zx_icmp_gt, zx_icmp_le, zx_getfield, zx_putfield, zx_iaload, zx_laload, zx_aaload, zx_iastore, zx_lastore, zx_arraylength, zx_ireturn, zx_lreturn, zx_areturn, zx_return, zx_athrow, zx_static0, zx_static1, zx_virt1, zx_static2, zx_virt2, zx_static3, zx_virt3, zx_static4, zx_virt4, zx_static5, zx_virt5, zx_static6, zx_virt6, zx_static7, zx_virt7, zx_cpI, zx_cpL, ↓cpI, ↓cpL, zx_slen, zx_schr, zx_tsw, zx_spec3, new_X, zx_new1, zrun_nil, zrun_cons, ↓zgi_h, ↓zgi_n, ↓zgl_h, ↓zgl_n, ↓zgr_h, ↓zgr_n, zset1, zset2, zins_nil, zins_c, f3, cat_i, cat_l, cat_r, List.filter_cons, List.filter_nil, Bool.false_eq_true, l_of0, lv_args, Nat.reduceBEq, Nat.reduceAdd, Nat.reduceLeDiff, Nat.reduceLT, Bool.not_true, Bool.not_false, Bool.and_true, Bool.true_and, Bool.and_false, Bool.false_and, Nat.reduceEqDiff, reduceIte, List.contains_cons, List.contains_nil, Bool.or_false, Bool.or_true, Bool.false_or, Bool.true_or, Fin.isValue, Fin.val_zero, Fin.val_one, Fin.val_two, Fin.reduceFinMk, Option.toList_some, Option.toList_none, List.nil_append, List.cons_append, zwt_nil, zwt_i, zwt_l, zwt_r, zthr_nil, List.isEmpty_nil, zcE, ↓ar_k, lgc0, true_and, and_true, true_implies, implies_true, false_implies, forall_const, i_len, ob_0, ob_1, ↓bI_01, bI_0, not_true_eq_false, not_false_eq_true, Bool.not_eq_false, Bool.not_eq_true, ia_add, ia_sub, ia_mul, ia_neg, ↓ldI, ↓ldL, zaI_c, zaL_c, ↓zlen_I, ↓zlen_L, ↓stI, ↓stL, gD_sI, gN_sI, gI_sI, gJ_sI, gR_sI, gA_sI, gB_sI, gT_sI, gD_sJ, gN_sJ, gI_sJ, gJ_sJ, gR_sJ, gA_sJ, gB_sJ, gT_sJ, gD_sR, gN_sR, gI_sR, gJ_sR, gR_sR, gA_sR, gB_sR, gT_sR, gD_sA, gN_sA, gI_sA, gJ_sA, gR_sA, gA_sA, gB_sA, gT_sA, gD_sB, gN_sB, gI_sB, gJ_sB, gR_sB, gA_sB, gB_sB, gT_sB, zx_il0, zx_il1, zx_il2, zx_il3, zx_ll0, zx_ll1, zx_ll2, zx_ll3, zx_al0, zx_al1, zx_al2, zx_al3, e_has, e_bA, e_mn, e_mx, e_pcI, e_pcL, e_low, zml_134, zg134_0, zb134_0, zb134_2, zb134_27, zg134_118, zb134_118, zg134_124, zb134_124, zg134_130, zb134_130, zmc_26, zms_26, zow_26, zhd_26, zmc_134, zms_134, zow_134, zhd_134, ↓gf_3_0, ↓gf_3_1, ↓gf_3_4, ↓gf_3_5, ↓gf_3_6, show (Int8.ofInt 48).toInt32 = Int32.ofInt 48 from rfl, show ztg 121 (-94) = 27 from rfl, show ztg 127 (-125) = 2 from rfl, show ztg 33 91 = 124 from rfl, show ztg 39 85 = 124 from rfl, show ztg 53 65 = 118 from rfl, show ztg 7 123 = 130 from rfl, LPost_d (PS_L hp), LPost_r2 (PS_L hp), LPost_k2 (PS_L hp), LPost_n2 (PS_L hp), LPost_r4 (PS_L hp), LPost_k4 (PS_L hp), LPost_n4 (PS_L hp), LPost_r5 (PS_L hp), LPost_k5 (PS_L hp), LPost_n5 (PS_L hp), PS_b hp, PS_db hp, PS_p hp, PS_dp hp, heE, n2, npb, n67, n68, hb16, gA_self, sA_sA]
        try simp (disch := omega) only [ii_lt, ii_le, ii_eq, ii_eq0, ii_lt0, ii_0lt, ii_le0, ii_0le, i_inT, i_natN, i_nat, ia_div, ia_rem, hs_ofI, i_1shl, i_or, i_bit, true_and, and_true, not_true_eq_false, not_false_eq_true, true_implies, false_implies, implies_true, Int.reduceLT, Int.reduceLE, Int.reduceEq, Int.reduceNeg, Int.toNat_natCast, Int.reduceToNat, Nat.reduceLeDiff, Nat.reduceAdd, tn_2, tn_2p, tn_48, tn_48r, tn_3, tn_3p, tn_3q, tn_p1, tn_d2, tn_12, ia_add, ia_sub, ia_mul]
        refine ⟨fun c2 => ?_, fun c2 => ?_⟩
        · have := ih (by omega) g2 (BB_c hg2 (fun u j2 hu hj2 => ?_))
          · first | exact this | exact zjf rfl (this)
          · by_cases hc : s.testBit (eS T (sp T c false) j2) = false ∧ u = s ||| 2 ^ eS T (sp T c false) j2
            · rw [Ps_t hc, Ps_t hc, if_pos (by omega), if_neg (Nat.not_lt_zero _)]
            · rw [Ps_f hc, Ps_f hc]
        · cases e : Vs T (nx T r) (sp T c false) c s s i with
          | none =>
            have go := ih (by omega) g2 (BB_c hg2 (fun u j2 hu hj2 => by
              by_cases hc : s.testBit (eS T (sp T c false) j2) = false ∧ u = s ||| 2 ^ eS T (sp T c false) j2
              · rw [Ps_t hc, Ps_t hc, if_neg (Nat.not_lt_zero j2)]
                have hom := omn j2 (by unfold Fs; rw [e, oa_none])
                split
                · rfl
                · exact hom.symm
              · rw [Ps_f hc, Ps_f hc]))
            simp only [show fr 268435456 none = 268435456 from rfl]
            try simp (disch := omega) only [ii_lt, ii_le, ii_eq, ii_eq0, ii_lt0, ii_0lt, ii_le0, ii_0le, i_inT, i_natN, i_nat, ia_div, ia_rem, hs_ofI, i_1shl, i_or, i_bit, true_and, and_true, not_true_eq_false, not_false_eq_true, true_implies, false_implies, implies_true, Int.reduceLT, Int.reduceLE, Int.reduceEq, Int.reduceNeg, Int.toNat_natCast, Int.reduceToNat, Nat.reduceLeDiff, Nat.reduceAdd, tn_2, tn_2p, tn_48, tn_48r, tn_3, tn_3p, tn_3q, tn_p1, tn_d2, tn_12, ia_add, ia_sub, ia_mul]
            first
            | exact go
            | exact zjf rfl go
            | exact ⟨fun _ => zjf rfl go, fun z => by omega⟩
            | exact ⟨fun _ => go, fun z => by omega⟩
          | some x =>
            have hx := hvb x e
            have ih2 := ih2 (by omega)
            rw [e] at ih2
            simp only [show fr 268435456 (some x) = x from rfl] at ih2 ⊢
            try simp (disch := omega) only [ii_lt, ii_le, ii_eq, ii_eq0, ii_lt0, ii_0lt, ii_le0, ii_0le, i_inT, i_natN, i_nat, ia_div, ia_rem, hs_ofI, i_1shl, i_or, i_bit, true_and, and_true, not_true_eq_false, not_false_eq_true, true_implies, false_implies, implies_true, Int.reduceLT, Int.reduceLE, Int.reduceEq, Int.reduceNeg, Int.toNat_natCast, Int.reduceToNat, Nat.reduceLeDiff, Nat.reduceAdd, tn_2, tn_2p, tn_48, tn_48r, tn_3, tn_3p, tn_3q, tn_p1, tn_d2, tn_12, ia_add, ia_sub, ia_mul]
            refine ⟨fun z => by omega, fun _ => ?_⟩
            have hjj := he.2 j (by show j < eN T (sp T c false) N; omega)
            obtain ⟨aj1, aj2, aj3, aj4⟩ := eA_ok (T := T) (p := sp T c false) (N := N) (i := j) (by omega)
            have ajl := isA_lt aj1
            have hsj : gA σ 68 j = Int32.ofInt (eS T (sp T c false) j) := by
              rw [hjj.2, ← aj3]
              rfl
            have hsl : eS T (sp T c false) j < N := aj4
            try simp (disch := omega) only [ii_lt, ii_le, ii_eq, ii_eq0, ii_lt0, ii_0lt, ii_le0, ii_0le, i_inT, i_natN, i_nat, ia_div, ia_rem, hs_ofI, i_1shl, i_or, i_bit, true_and, and_true, not_true_eq_false, not_false_eq_true, true_implies, false_implies, implies_true, Int.reduceLT, Int.reduceLE, Int.reduceEq, Int.reduceNeg, Int.toNat_natCast, Int.reduceToNat, Nat.reduceLeDiff, Nat.reduceAdd, tn_2, tn_2p, tn_48, tn_48r, tn_3, tn_3p, tn_3q, tn_p1, tn_d2, tn_12, ia_add, ia_sub, ia_mul, hsj, bI_0]
            try simp only [hsj]
            try refine ⟨by omega, ?_⟩
            try simp (disch := omega) only [ii_lt, ii_le, ii_eq, ii_eq0, ii_lt0, ii_0lt, ii_le0, ii_0le, i_inT, i_natN, i_nat, ia_div, ia_rem, hs_ofI, i_1shl, i_or, i_bit, true_and, and_true, not_true_eq_false, not_false_eq_true, true_implies, false_implies, implies_true, Int.reduceLT, Int.reduceLE, Int.reduceEq, Int.reduceNeg, Int.toNat_natCast, Int.reduceToNat, Nat.reduceLeDiff, Nat.reduceAdd, tn_2, tn_2p, tn_48, tn_48r, tn_3, tn_3p, tn_3q, tn_p1, tn_d2, tn_12, ia_add, ia_sub, ia_mul, bI_0]
            cases eb : s.testBit (eS T (sp T c false) j) with
            | true =>
              have go := ih2 g2 (BB_c hg2 (fun u j2 hu hj2 => by
                by_cases hc : s.testBit (eS T (sp T c false) j2) = false ∧ u = s ||| 2 ^ eS T (sp T c false) j2
                · have hne : j2 ≠ j := by
                    intro e2
                    rw [e2, eb] at hc
                    cases hc.1
                  rw [Ps_t hc, Ps_t hc]
                  by_cases e3 : j2 < j
                  · rw [if_pos e3, if_pos (by omega)]
                  · rw [if_neg e3, if_neg (by omega)]
                · rw [Ps_f hc, Ps_f hc]))
              try simp (disch := omega) only [ii_lt, ii_le, ii_eq, ii_eq0, ii_lt0, ii_0lt, ii_le0, ii_0le, i_inT, i_natN, i_nat, ia_div, ia_rem, hs_ofI, i_1shl, i_or, i_bit, true_and, and_true, not_true_eq_false, not_false_eq_true, true_implies, false_implies, implies_true, Int.reduceLT, Int.reduceLE, Int.reduceEq, Int.reduceNeg, Int.toNat_natCast, Int.reduceToNat, Nat.reduceLeDiff, Nat.reduceAdd, tn_2, tn_2p, tn_48, tn_48r, tn_3, tn_3p, tn_3q, tn_p1, tn_d2, tn_12, ia_add, ia_sub, ia_mul, bI_0]
              first
              | exact go
              | exact zjf rfl go
              | exact ⟨fun _ => zjf rfl go, fun z => (by cases z)⟩
              | exact ⟨fun _ => go, fun z => (by cases z)⟩
              | exact ⟨fun _ => go, fun z => absurd z (by decide)⟩
            | false =>
              have hor : s ||| 2 ^ eS T (sp T c false) j < 2 ^ N := Nat.or_lt_two_pow hs (Nat.pow_lt_pow_right (by omega) hsl)
              have hiy := ix_lt (u := s ||| 2 ^ eS T (sp T c false) j) (E := E) (i := j) hor (by omega)
              have hcur : g2 ((s ||| 2 ^ eS T (sp T c false) j) * E + j) = Int32.ofInt (fr 268435456 (om (Fs T (nx T r) (sp T c false) c s j) i)) := by
                have := hg2 (s ||| 2 ^ eS T (sp T c false) j) j hor (by omega)
                rw [gA_self, Ps_t ⟨eb, rfl⟩, if_neg (Nat.lt_irrefl _)] at this
                exact this
              have hmm := hM (eA T (sp T c false) i) (eA T (sp T c false) j) ail ajl
              have hmb : fr 268435456 (mI T (nx T r) (2 * nS T) (eA T (sp T c false) i) (eA T (sp T c false) j)) ≤ 268435456 := fr_b (fun y hy => by have := mI_b hw nx_A hy; omega)
              have hFb : ∀ i2 y, i2 ≤ i → om (Fs T (nx T r) (sp T c false) c s j) i2 = some y → y ≤ 200000 := by
                intro i2 y h2 hy
                obtain ⟨e1, e2, e3⟩ := om_ls.1 y hy
                obtain ⟨y1, z1, y2, z2, e4⟩ := oa_ex e3
                have := hVb s s e1 y1 hs (by omega) y2
                have := mI_b hw nx_A z2
                omega
              have hval := mn_ol (o1 := om (Fs T (nx T r) (sp T c false) c s j) i) (o2 := Fs T (nx T r) (sp T c false) c s j i) (V := x + fr 268435456 (mI T (nx T r) (2 * nS T) (eA T (sp T c false) i) (eA T (sp T c false) j))) (fun y hy => hFb i y (Nat.le_refl _) hy) (fun y hy => by
                unfold Fs at hy
                rw [e] at hy
                obtain ⟨y1, z1, y2, z2, e4⟩ := oa_ex hy
                cases y2
                have := mI_b hw nx_A z2
                rw [z2, e4]
                exact ⟨rfl, by omega⟩) (fun hn => by
                unfold Fs at hn
                rw [e] at hn
                cases e5 : mI T (nx T r) (2 * nS T) (eA T (sp T c false) i) (eA T (sp T c false) j) with
                | none =>
                  show 268435456 ≤ x + 268435456
                  omega
                | some z =>
                  rw [e5] at hn
                  cases hn) (by omega)
              rw [← om_s] at hval
              rw [show ((x + fr 268435456 (mI T (nx T r) (2 * nS T) (eA T (sp T c false) i) (eA T (sp T c false) j)) : Nat) : Int) = (x : Int) + (fr 268435456 (mI T (nx T r) (2 * nS T) (eA T (sp T c false) i) (eA T (sp T c false) j)) : Int) from by omega] at hval
              have go := ih2 (upd g2 ((s ||| 2 ^ eS T (sp T c false) j) * E + j) (Int32.ofInt (fr 268435456 (om (Fs T (nx T r) (sp T c false) c s j) (i + 1))))) (BB_u hg2 (by omega) (by rw [Ps_t ⟨eb, rfl⟩, if_pos (by omega)]) (fun u j2 hu hj2 hne => by
                by_cases hc : s.testBit (eS T (sp T c false) j2) = false ∧ u = s ||| 2 ^ eS T (sp T c false) j2
                · have hne : j2 ≠ j := by
                    intro e2
                    rw [e2] at hc
                    exact hne ⟨hc.2, e2⟩
                  rw [Ps_t hc, Ps_t hc]
                  by_cases e3 : j2 < j
                  · rw [if_pos e3, if_pos (by omega)]
                  · rw [if_neg e3, if_neg (by omega)]
                · rw [Ps_f hc, Ps_f hc]))
              try simp (disch := omega) only [ii_lt, ii_le, ii_eq, ii_eq0, ii_lt0, ii_0lt, ii_le0, ii_0le, i_inT, i_natN, i_nat, ia_div, ia_rem, hs_ofI, i_1shl, i_or, i_bit, true_and, and_true, not_true_eq_false, not_false_eq_true, true_implies, false_implies, implies_true, Int.reduceLT, Int.reduceLE, Int.reduceEq, Int.reduceNeg, Int.toNat_natCast, Int.reduceToNat, Nat.reduceLeDiff, Nat.reduceAdd, tn_2, tn_2p, tn_48, tn_48r, tn_3, tn_3p, tn_3q, tn_p1, tn_d2, tn_12, ia_add, ia_sub, ia_mul, bI_0, cs3, hcur, hii.1, hjj.1]
              try simp only [cs3, hcur, hii.1, hjj.1]
              try simp (disch := omega) only [ii_lt, ii_le, ii_eq, ii_eq0, ii_lt0, ii_0lt, ii_le0, ii_0le, i_inT, i_natN, i_nat, ia_div, ia_rem, hs_ofI, i_1shl, i_or, i_bit, true_and, and_true, not_true_eq_false, not_false_eq_true, true_implies, false_implies, implies_true, Int.reduceLT, Int.reduceLE, Int.reduceEq, Int.reduceNeg, Int.toNat_natCast, Int.reduceToNat, Nat.reduceLeDiff, Nat.reduceAdd, tn_2, tn_2p, tn_48, tn_48r, tn_3, tn_3p, tn_3q, tn_p1, tn_d2, tn_12, ia_add, ia_sub, ia_mul, cs3, hcur, hmm]
              try simp only [cs3, hcur, hmm]
              try simp (disch := omega) only [ii_lt, ii_le, ii_eq, ii_eq0, ii_lt0, ii_0lt, ii_le0, ii_0le, i_inT, i_natN, i_nat, ia_div, ia_rem, hs_ofI, i_1shl, i_or, i_bit, true_and, and_true, not_true_eq_false, not_false_eq_true, true_implies, false_implies, implies_true, Int.reduceLT, Int.reduceLE, Int.reduceEq, Int.reduceNeg, Int.toNat_natCast, Int.reduceToNat, Nat.reduceLeDiff, Nat.reduceAdd, tn_2, tn_2p, tn_48, tn_48r, tn_3, tn_3p, tn_3q, tn_p1, tn_d2, tn_12, ia_add, ia_sub, ia_mul, hcur, hmm]
              try simp only [ia_add, hval]
              first
              | exact go
              | exact zjf rfl go
              | exact ⟨fun z => (by cases z), fun _ => go⟩
              | exact ⟨by omega, go⟩
              | exact ⟨by omega, by omega, go⟩
              | exact ⟨by omega, by omega, by omega, go⟩
              | exact ⟨by omega, by omega, by omega, by omega, go⟩
      have := key2 0 (by omega) g hg
      first | exact this | exact zjf rfl (this)
  have := key1 0 (by omega) (gA σ b) (fun u i hu hi => by rw [sA_same rfl, hB u i hu hi, Ps_0])
  rw [sA_same rfl] at this
  first | exact this | exact zjf rfl (this)
