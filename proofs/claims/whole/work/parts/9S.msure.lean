/-! SURE -/
theorem pc_ban {R : Nat → Nat → Bool} {c : Int} {a b : Nat} (h : (pr a b : Int) ≠ c) : pc R c a b = pc R (-1) a b := by
  unfold pc
  rw [if_neg h, if_neg (show ¬ (pr a b : Int) = -1 from by omega)]
theorem st_ban {T : Tw} {R : Nat → Nat → Bool} {U : Nat → Nat} {c : Int} (h : ∀ a b, a < 2 * nS T → b < 2 * nS T → (pr a b : Int) ≠ c) : ∀ i a, st T R U c i a = st T R U (-1) i a := by
  intro i
  induction i with
  | zero => exact fun a => rfl
  | succ i ih =>
    intro a
    cases e : lg T U (i + 1) a with
    | false => rw [st_0 e, st_0 e]
    | true =>
      rw [st_s e, st_s e]
      refine ov_congr 48 (fun e2 _ => ?_) (fun e2 x _ _ => by rw [ih e2])
      show oa (st T R U c i e2).1 (pc R c e2 a) = oa (st T R U (-1) i e2).1 (pc R (-1) e2 a)
      rw [ih e2]
      cases e3 : (st T R U (-1) i e2).1 with
      | none => rfl
      | some x => rw [pc_ban (h e2 a (lg_lt (st_lg e3)) (lg_lt e))]
theorem sT_ban {T : Tw} {R : Nat → Nat → Bool} {U : Nat → Nat} {c : Int} {m : Nat} (h : ∀ a b, a < 2 * nS T → b < 2 * nS T → (pr a b : Int) ≠ c) : sT T R U c m = sT T R U (-1) m := by
  unfold sT
  exact ov_congr 48 (fun e _ => by rw [st_ban h]) (fun e x _ _ => by rw [st_ban h])
def cde (n p : Nat) : Nat := p / n * 100 + p % n
theorem cde_mono {n p : Nat} (hn : n ≤ 24) (hp : p + 1 < n * n) : cde n p < cde n (p + 1) ∧ ∀ c, cde n p < c → c < cde n (p + 1) → ∀ a b, a < 2 * n → b < 2 * n → pr a b ≠ c := by
  have n0 : 0 < n := by
    apply Classical.byContradiction
    intro z
    rw [show n = 0 from by omega] at hp
    omega
  have e1 := Nat.div_add_mod p n
  have e2 := Nat.div_add_mod (p + 1) n
  have l1 := Nat.mod_lt p n0
  have l2 := Nat.mod_lt (p + 1) n0
  unfold cde pr
  have key : ((p + 1) / n = p / n ∧ (p + 1) % n = p % n + 1) ∨ ((p + 1) / n = p / n + 1 ∧ (p + 1) % n = 0 ∧ p % n + 1 = n) := by
    by_cases c : p % n + 1 < n
    · left
      have h : p + 1 = n * (p / n) + (p % n + 1) := by omega
      constructor
      · rw [h, Nat.mul_add_div n0, Nat.div_eq_of_lt c, Nat.add_zero]
      · rw [h, Nat.mul_add_mod, Nat.mod_eq_of_lt c]
    · right
      have h : p + 1 = n * (p / n + 1) + 0 := by
        rw [Nat.mul_add, Nat.mul_one]
        omega
      refine ⟨?_, ?_, by omega⟩
      · rw [h, Nat.mul_add_div n0, Nat.zero_div, Nat.add_zero]
      · rw [h, Nat.mul_add_mod, Nat.zero_mod]
  rcases key with k | k
  · rw [k.1, k.2]
    refine ⟨by omega, fun c c1 c2 => by omega⟩
  · rw [k.1, k.2.1]
    refine ⟨by omega, fun c c1 c2 a b ha hb => ?_⟩
    omega
theorem cp_gap {p : Nat → Bool} {a : Nat} : ∀ d, (∀ c, a ≤ c → c < a + d → p c = false) → cp p (a + d) = cp p a
  | 0, _ => rfl
  | d + 1, h => by
    rw [show a + (d + 1) = a + d + 1 from rfl, cp_f (h (a + d) (by omega) (by omega)), cp_gap d (fun c h1 h2 => h c h1 (by omega))]
def SX (σ τ : zS) (r : Rl) : Prop := fK σ (sI τ 88 54 (Int32.ofInt (-1))) ∧ RI (gA τ 608) (gA τ 609) r ∧ gI τ 88 0 = Int32.ofInt 0
theorem SX_FB {σ τ τ2 : zS} {r : Rl} {x y : Int32} (h : SX σ τ r) (f : FB (sI (sI τ 88 54 x) 88 55 y) τ2) : SX σ τ2 r := by
  obtain ⟨f1, f2, f3, f4, f5⟩ := f
  refine ⟨fK_trans h.1 ⟨f1.1, f1.2.1, fun a ha hc => ?_, fun k hk => ?_⟩, by rw [f2, f3]; exact h.2.1, ?_⟩
  · have k := f1.2.2.1 a ha hc
    have na : a ≠ 88 := fun z => by unfold cor2 at hc; omega
    refine ⟨?_, k.2.1, k.2.2.1, k.2.2.2⟩
    funext j
    rw [gI_sI, if_neg (fun z => na z.1), gI_sI, if_neg (fun z => na z.1)]
    have := congrFun k.1 j
    rw [gI_sI, if_neg (fun z => na z.1), gI_sI, if_neg (fun z => na z.1)] at this
    exact this
  · rw [gI_sI, gI_sI]
    by_cases e : k = 54
    · rw [if_pos ⟨rfl, e⟩, if_pos ⟨rfl, e⟩]
    · rw [if_neg (fun z => e z.2), if_neg (fun z => e z.2), f5 k (by unfold cof at hk; omega), gI_sI, if_neg (by unfold cof at hk; omega), gI_sI, if_neg (by omega)]
  · rw [f5 0 (by omega), gI_sI, if_neg (by omega), gI_sI, if_neg (by omega)]
    exact h.2.2

theorem q_sure {σ : zS} {s : Ab} {w : Int} {v : Int} {Q : zQ} (h : MI σ s) (hw : -2147483648 ≤ w ∧ w < 2147483648) (hv : -2147483648 ≤ v ∧ v < 2147483648) (hQ : ∀ τ z, fK σ τ → AN (fun _ => 1) (a_sure s w v) τ z → Q (.inl (some (.int z))) (hOf τ)) : zW zP 285 [.ref 88, .int (Int32.ofInt w), .int (Int32.ofInt v)] (hOf σ) Q := by
  have hwf := MI_w h
  have h16 := hwf.1
  have h24 := hwf.2.1
  have hn2 := MI_n2 h
  have h12 := hwf.2.2.1
  have f0 : fK σ (sI σ 88 0 (Int32.ofInt 0)) := fK_I fK_refl (by unfold cof; omega)
  have h0 := MI_fK f0 h
  have hL := MI_L h
  have hL0 := MI_L h0
  have b0 : ∀ (w : Int32) (Q : zQ), zW zP 207 [.ref 88, .int (Int32.ofInt 0), .int w] (hOf (sI σ 88 0 (Int32.ofInt 0))) Q = Q (.inl (some (.int (Int32.ofInt 0)))) (hOf (sI σ 88 0 (Int32.ofInt 0))) := fun w Q => m_bad0 hL0 rfl
  have b1 : ∀ (Q : zQ), zW zP 207 [.ref 88, .int (Int32.ofInt 1), .int (Int32.ofInt 1)] (hOf (sI σ 88 0 (Int32.ofInt 0))) Q = Q (.inl (some (.int (Int32.ofInt 1)))) (hOf (sI (sI σ 88 0 (Int32.ofInt 0)) 88 0 (Int32.ofInt 1))) := fun Q => m_bad1 hL0 rfl (by decide)
  rw [zWE]
  by_cases c1 : 0 ≤ w ∧ w ≤ (xn s : Int)
  rotate_left
  · simp -implicitDefEqProofs only [zx_iconst, zx_bipush, zx_sipush, zx_lconst, zx_ldc, zx_ldcS, zx_ldc_w, zx_ldc2_w, zx_iload, zx_lload, zx_aload, zx_istore_n, zx_istore, zx_lstore_n, zx_lstore, zx_astore_n, zx_astore, zx_iinc, zx_iadd, zx_isub, zx_imul, zx_iand, zx_ior, zx_ixor, zx_ishl, zx_ishr, zx_iushr, zx_idiv, zx_irem, zx_ineg, zx_ladd, zx_lsub, zx_land, zx_lor, zx_lxor, zx_lneg, zx_lshl, zx_lushr, zx_i2l, zx_l2i, zx_lcmp, zx_dup, zx_dup2, zx_pop, zx_goto, zx_if_eq, zx_if_ne, zx_if_lt, zx_if_ge, zx_if_gt, zx_if_le, zx_icmp_eq, zx_icmp_ne, zx_icmp_lt, zx_icmp_ge, zx_icmp_gt, zx_icmp_le, zx_getfield, zx_putfield, zx_iaload, zx_laload, zx_aaload, zx_iastore, zx_lastore, zx_arraylength, zx_ireturn, zx_lreturn, zx_areturn, zx_return, zx_athrow, zx_static0, zx_static1, zx_virt1, zx_static2, zx_virt2, zx_static3, zx_virt3, zx_static4, zx_virt4, zx_static5, zx_virt5, zx_static6, zx_virt6, zx_static7, zx_virt7, zx_cpI, zx_cpL, ↓cpI, ↓cpL, zx_slen, zx_schr, zx_tsw, zx_spec3, new_X, zx_new1, zrun_nil, zrun_cons, ↓zgi_h, ↓zgi_n, ↓zgl_h, ↓zgl_n, ↓zgr_h, ↓zgr_n, zset1, zset2, zins_nil, zins_c, f3, cat_i, cat_l, cat_r, List.filter_cons, List.filter_nil, Bool.false_eq_true, l_of0, lv_args, Nat.reduceBEq, Nat.reduceAdd, Nat.reduceLeDiff, Nat.reduceLT, Bool.not_true, Bool.not_false, Bool.and_true, Bool.true_and, Bool.and_false, Bool.false_and, Nat.reduceEqDiff, reduceIte, List.contains_cons, List.contains_nil, Bool.or_false, Bool.or_true, Bool.false_or, Bool.true_or, Fin.isValue, Fin.val_zero, Fin.val_one, Fin.val_two, Fin.reduceFinMk, Option.toList_some, Option.toList_none, List.nil_append, List.cons_append, zwt_nil, zwt_i, zwt_l, zwt_r, zthr_nil, List.isEmpty_nil, zcE, ↓ar_k, lgc0, true_and, and_true, true_implies, implies_true, false_implies, forall_const, i_len, ob_0, ob_1, ↓bI_01, bI_0, not_true_eq_false, not_false_eq_true, Bool.not_eq_false, Bool.not_eq_true, ia_add, ia_sub, ia_mul, ia_neg, ↓ldI, ↓ldL, zaI_c, zaL_c, ↓zlen_I, ↓zlen_L, ↓stI, ↓stL, gD_sI, gN_sI, gI_sI, gJ_sI, gR_sI, gA_sI, gB_sI, gT_sI, gD_sJ, gN_sJ, gI_sJ, gJ_sJ, gR_sJ, gA_sJ, gB_sJ, gT_sJ, gD_sR, gN_sR, gI_sR, gJ_sR, gR_sR, gA_sR, gB_sR, gT_sR, gD_sA, gN_sA, gI_sA, gJ_sA, gR_sA, gA_sA, gB_sA, gT_sA, gD_sB, gN_sB, gI_sB, gJ_sB, gR_sB, gA_sB, gB_sB, gT_sB, zx_il0, zx_il1, zx_il2, zx_il3, zx_ll0, zx_ll1, zx_ll2, zx_ll3, zx_al0, zx_al1, zx_al2, zx_al3, e_has, e_bA, e_mn, e_mx, e_pcI, e_pcL, e_low, tc0, tc1, tc2, tc3, vc0_2, vc1_2, vc0_3, vc1_3, vc2_3, vc0_4, vc1_4, vc2_4, vc3_4, m_in, i10, i20, i00, i11, true_or, false_or, Bool.true_eq_false, eq_self, zml_285, zg285_0, zb285_0, zg285_18, zb285_18, zg285_19, zb285_19, zg285_28, zb285_28, zg285_38, zb285_38, zg285_73, zb285_73, zg285_75, zb285_75, zb285_78, zg285_143, zb285_143, zg285_163, zb285_163, zg285_164, zb285_164, zg285_169, zb285_169, zg285_175, zb285_175, zmc_234, zms_234, zow_234, zhd_234, zmc_207, zms_207, zow_207, zhd_207, zmc_212, zms_212, zow_212, zhd_212, zmc_285, zms_285, zow_285, zhd_285, zmc_221, zms_221, zow_221, zhd_221, ↓gf_11_10, ↓gf_11_28, ↓gf_11_54, ↓gf_11_55, ↓gf_11_56, ↓gv_11, ↓pp_11_0, ↓pp_11_54, ↓pp_11_55, ↓pq_11_0, ↓pq_11_54, ↓pq_11_55, ↓pw_11_0, ↓pw_11_54, ↓pw_11_55, show (Int8.ofInt 100).toInt32 = Int32.ofInt 100 from rfl, show ztg 11 7 = 18 from rfl, show ztg 137 6 = 143 from rfl, show ztg 140 29 = 169 from rfl, show ztg 145 18 = 163 from rfl, show ztg 15 4 = 19 from rfl, show ztg 160 4 = 164 from rfl, show ztg 172 (-94) = 78 from rfl, show ztg 23 5 = 28 from rfl, show ztg 33 5 = 38 from rfl, show ztg 62 11 = 73 from rfl, show ztg 66 7 = 73 from rfl, show ztg 70 5 = 75 from rfl, show ztg 93 82 = 175 from rfl, show ztg 99 76 = 175 from rfl, LM_d hL, LM_r10 hL, LM_k10 hL, LM_n10 hL, m_isTime (MI_L h0) (MI_H h0).1 (MI_n2 h0) hw, decide_eq_false c1, b0, b1]
    refine hQ _ _ (fK_I f0 (by unfold cof; omega)) ?_
    have ea : ∃ e, a_sure s w v = .inl e ∧ (fun _ => 1 : Nat → Int) e = (1 : Int) := by
      unfold a_sure
      (repeat' split) <;> first | exact ⟨_, rfl, rfl⟩ | contradiction | (exfalso; omega)
    obtain ⟨e, e1, e2⟩ := ea
    rw [e1]
    exact congrArg Int32.ofInt e2.symm
  obtain ⟨w, rfl⟩ : ∃ k : Nat, w = (k : Int) := ⟨w.toNat, by omega⟩
  have hQ2 : ∀ τ z, fK σ τ → gI τ 88 0 = Int32.ofInt 0 → z = Int32.ofInt (oI (sK (xT s) (nx (xT s) (xH s w)) (xU s) (xm s) v)) → Q (.inl (some (.int z))) (hOf τ) := by
    intro τ z f e1 e2
    refine hQ τ z f ?_
    unfold a_sure
    rw [if_pos c1]
    try simp only [Int.toNat_natCast]
    exact ⟨e1, e2⟩
  simp -implicitDefEqProofs only [zx_iconst, zx_bipush, zx_sipush, zx_lconst, zx_ldc, zx_ldcS, zx_ldc_w, zx_ldc2_w, zx_iload, zx_lload, zx_aload, zx_istore_n, zx_istore, zx_lstore_n, zx_lstore, zx_astore_n, zx_astore, zx_iinc, zx_iadd, zx_isub, zx_imul, zx_iand, zx_ior, zx_ixor, zx_ishl, zx_ishr, zx_iushr, zx_idiv, zx_irem, zx_ineg, zx_ladd, zx_lsub, zx_land, zx_lor, zx_lxor, zx_lneg, zx_lshl, zx_lushr, zx_i2l, zx_l2i, zx_lcmp, zx_dup, zx_dup2, zx_pop, zx_goto, zx_if_eq, zx_if_ne, zx_if_lt, zx_if_ge, zx_if_gt, zx_if_le, zx_icmp_eq, zx_icmp_ne, zx_icmp_lt, zx_icmp_ge, zx_icmp_gt, zx_icmp_le, zx_getfield, zx_putfield, zx_iaload, zx_laload, zx_aaload, zx_iastore, zx_lastore, zx_arraylength, zx_ireturn, zx_lreturn, zx_areturn, zx_return, zx_athrow, zx_static0, zx_static1, zx_virt1, zx_static2, zx_virt2, zx_static3, zx_virt3, zx_static4, zx_virt4, zx_static5, zx_virt5, zx_static6, zx_virt6, zx_static7, zx_virt7, zx_cpI, zx_cpL, ↓cpI, ↓cpL, zx_slen, zx_schr, zx_tsw, zx_spec3, new_X, zx_new1, zrun_nil, zrun_cons, ↓zgi_h, ↓zgi_n, ↓zgl_h, ↓zgl_n, ↓zgr_h, ↓zgr_n, zset1, zset2, zins_nil, zins_c, f3, cat_i, cat_l, cat_r, List.filter_cons, List.filter_nil, Bool.false_eq_true, l_of0, lv_args, Nat.reduceBEq, Nat.reduceAdd, Nat.reduceLeDiff, Nat.reduceLT, Bool.not_true, Bool.not_false, Bool.and_true, Bool.true_and, Bool.and_false, Bool.false_and, Nat.reduceEqDiff, reduceIte, List.contains_cons, List.contains_nil, Bool.or_false, Bool.or_true, Bool.false_or, Bool.true_or, Fin.isValue, Fin.val_zero, Fin.val_one, Fin.val_two, Fin.reduceFinMk, Option.toList_some, Option.toList_none, List.nil_append, List.cons_append, zwt_nil, zwt_i, zwt_l, zwt_r, zthr_nil, List.isEmpty_nil, zcE, ↓ar_k, lgc0, true_and, and_true, true_implies, implies_true, false_implies, forall_const, i_len, ob_0, ob_1, ↓bI_01, bI_0, not_true_eq_false, not_false_eq_true, Bool.not_eq_false, Bool.not_eq_true, ia_add, ia_sub, ia_mul, ia_neg, ↓ldI, ↓ldL, zaI_c, zaL_c, ↓zlen_I, ↓zlen_L, ↓stI, ↓stL, gD_sI, gN_sI, gI_sI, gJ_sI, gR_sI, gA_sI, gB_sI, gT_sI, gD_sJ, gN_sJ, gI_sJ, gJ_sJ, gR_sJ, gA_sJ, gB_sJ, gT_sJ, gD_sR, gN_sR, gI_sR, gJ_sR, gR_sR, gA_sR, gB_sR, gT_sR, gD_sA, gN_sA, gI_sA, gJ_sA, gR_sA, gA_sA, gB_sA, gT_sA, gD_sB, gN_sB, gI_sB, gJ_sB, gR_sB, gA_sB, gB_sB, gT_sB, zx_il0, zx_il1, zx_il2, zx_il3, zx_ll0, zx_ll1, zx_ll2, zx_ll3, zx_al0, zx_al1, zx_al2, zx_al3, e_has, e_bA, e_mn, e_mx, e_pcI, e_pcL, e_low, tc0, tc1, tc2, tc3, vc0_2, vc1_2, vc0_3, vc1_3, vc2_3, vc0_4, vc1_4, vc2_4, vc3_4, m_in, i10, i20, i00, i11, true_or, false_or, Bool.true_eq_false, eq_self, zml_285, zg285_0, zb285_0, zg285_18, zb285_18, zg285_19, zb285_19, zg285_28, zb285_28, zg285_38, zb285_38, zg285_73, zb285_73, zg285_75, zb285_75, zb285_78, zg285_143, zb285_143, zg285_163, zb285_163, zg285_164, zb285_164, zg285_169, zb285_169, zg285_175, zb285_175, zmc_234, zms_234, zow_234, zhd_234, zmc_207, zms_207, zow_207, zhd_207, zmc_212, zms_212, zow_212, zhd_212, zmc_285, zms_285, zow_285, zhd_285, zmc_221, zms_221, zow_221, zhd_221, ↓gf_11_10, ↓gf_11_28, ↓gf_11_54, ↓gf_11_55, ↓gf_11_56, ↓gv_11, ↓pp_11_0, ↓pp_11_54, ↓pp_11_55, ↓pq_11_0, ↓pq_11_54, ↓pq_11_55, ↓pw_11_0, ↓pw_11_54, ↓pw_11_55, show (Int8.ofInt 100).toInt32 = Int32.ofInt 100 from rfl, show ztg 11 7 = 18 from rfl, show ztg 137 6 = 143 from rfl, show ztg 140 29 = 169 from rfl, show ztg 145 18 = 163 from rfl, show ztg 15 4 = 19 from rfl, show ztg 160 4 = 164 from rfl, show ztg 172 (-94) = 78 from rfl, show ztg 23 5 = 28 from rfl, show ztg 33 5 = 38 from rfl, show ztg 62 11 = 73 from rfl, show ztg 66 7 = 73 from rfl, show ztg 70 5 = 75 from rfl, show ztg 93 82 = 175 from rfl, show ztg 99 76 = 175 from rfl, LM_d hL, LM_r10 hL, LM_k10 hL, LM_n10 hL, m_isTime (MI_L h0) (MI_H h0).1 (MI_n2 h0) hw, decide_eq_true c1, b0]
  have hm12 : xm s ≤ 12 := (MI_v h).2.2.2.2.2.1
  have em := (MI_U h).1
  by_cases c2 : xm s < 2
  · have es : sK (xT s) (nx (xT s) (xH s w)) (xU s) (xm s) v = none := if_pos c2
    rw [es] at hQ2
    simp -implicitDefEqProofs only [zx_iconst, zx_bipush, zx_sipush, zx_lconst, zx_ldc, zx_ldcS, zx_ldc_w, zx_ldc2_w, zx_iload, zx_lload, zx_aload, zx_istore_n, zx_istore, zx_lstore_n, zx_lstore, zx_astore_n, zx_astore, zx_iinc, zx_iadd, zx_isub, zx_imul, zx_iand, zx_ior, zx_ixor, zx_ishl, zx_ishr, zx_iushr, zx_idiv, zx_irem, zx_ineg, zx_ladd, zx_lsub, zx_land, zx_lor, zx_lxor, zx_lneg, zx_lshl, zx_lushr, zx_i2l, zx_l2i, zx_lcmp, zx_dup, zx_dup2, zx_pop, zx_goto, zx_if_eq, zx_if_ne, zx_if_lt, zx_if_ge, zx_if_gt, zx_if_le, zx_icmp_eq, zx_icmp_ne, zx_icmp_lt, zx_icmp_ge, zx_icmp_gt, zx_icmp_le, zx_getfield, zx_putfield, zx_iaload, zx_laload, zx_aaload, zx_iastore, zx_lastore, zx_arraylength, zx_ireturn, zx_lreturn, zx_areturn, zx_return, zx_athrow, zx_static0, zx_static1, zx_virt1, zx_static2, zx_virt2, zx_static3, zx_virt3, zx_static4, zx_virt4, zx_static5, zx_virt5, zx_static6, zx_virt6, zx_static7, zx_virt7, zx_cpI, zx_cpL, ↓cpI, ↓cpL, zx_slen, zx_schr, zx_tsw, zx_spec3, new_X, zx_new1, zrun_nil, zrun_cons, ↓zgi_h, ↓zgi_n, ↓zgl_h, ↓zgl_n, ↓zgr_h, ↓zgr_n, zset1, zset2, zins_nil, zins_c, f3, cat_i, cat_l, cat_r, List.filter_cons, List.filter_nil, Bool.false_eq_true, l_of0, lv_args, Nat.reduceBEq, Nat.reduceAdd, Nat.reduceLeDiff, Nat.reduceLT, Bool.not_true, Bool.not_false, Bool.and_true, Bool.true_and, Bool.and_false, Bool.false_and, Nat.reduceEqDiff, reduceIte, List.contains_cons, List.contains_nil, Bool.or_false, Bool.or_true, Bool.false_or, Bool.true_or, Fin.isValue, Fin.val_zero, Fin.val_one, Fin.val_two, Fin.reduceFinMk, Option.toList_some, Option.toList_none, List.nil_append, List.cons_append, zwt_nil, zwt_i, zwt_l, zwt_r, zthr_nil, List.isEmpty_nil, zcE, ↓ar_k, lgc0, true_and, and_true, true_implies, implies_true, false_implies, forall_const, i_len, ob_0, ob_1, ↓bI_01, bI_0, not_true_eq_false, not_false_eq_true, Bool.not_eq_false, Bool.not_eq_true, ia_add, ia_sub, ia_mul, ia_neg, ↓ldI, ↓ldL, zaI_c, zaL_c, ↓zlen_I, ↓zlen_L, ↓stI, ↓stL, gD_sI, gN_sI, gI_sI, gJ_sI, gR_sI, gA_sI, gB_sI, gT_sI, gD_sJ, gN_sJ, gI_sJ, gJ_sJ, gR_sJ, gA_sJ, gB_sJ, gT_sJ, gD_sR, gN_sR, gI_sR, gJ_sR, gR_sR, gA_sR, gB_sR, gT_sR, gD_sA, gN_sA, gI_sA, gJ_sA, gR_sA, gA_sA, gB_sA, gT_sA, gD_sB, gN_sB, gI_sB, gJ_sB, gR_sB, gA_sB, gB_sB, gT_sB, zx_il0, zx_il1, zx_il2, zx_il3, zx_ll0, zx_ll1, zx_ll2, zx_ll3, zx_al0, zx_al1, zx_al2, zx_al3, e_has, e_bA, e_mn, e_mx, e_pcI, e_pcL, e_low, tc0, tc1, tc2, tc3, vc0_2, vc1_2, vc0_3, vc1_3, vc2_3, vc0_4, vc1_4, vc2_4, vc3_4, m_in, i10, i20, i00, i11, true_or, false_or, Bool.true_eq_false, eq_self, zml_285, zg285_0, zb285_0, zg285_18, zb285_18, zg285_19, zb285_19, zg285_28, zb285_28, zg285_38, zb285_38, zg285_73, zb285_73, zg285_75, zb285_75, zb285_78, zg285_143, zb285_143, zg285_163, zb285_163, zg285_164, zb285_164, zg285_169, zb285_169, zg285_175, zb285_175, zmc_234, zms_234, zow_234, zhd_234, zmc_207, zms_207, zow_207, zhd_207, zmc_212, zms_212, zow_212, zhd_212, zmc_285, zms_285, zow_285, zhd_285, zmc_221, zms_221, zow_221, zhd_221, ↓gf_11_10, ↓gf_11_28, ↓gf_11_54, ↓gf_11_55, ↓gf_11_56, ↓gv_11, ↓pp_11_0, ↓pp_11_54, ↓pp_11_55, ↓pq_11_0, ↓pq_11_54, ↓pq_11_55, ↓pw_11_0, ↓pw_11_54, ↓pw_11_55, show (Int8.ofInt 100).toInt32 = Int32.ofInt 100 from rfl, show ztg 11 7 = 18 from rfl, show ztg 137 6 = 143 from rfl, show ztg 140 29 = 169 from rfl, show ztg 145 18 = 163 from rfl, show ztg 15 4 = 19 from rfl, show ztg 160 4 = 164 from rfl, show ztg 172 (-94) = 78 from rfl, show ztg 23 5 = 28 from rfl, show ztg 33 5 = 38 from rfl, show ztg 62 11 = 73 from rfl, show ztg 66 7 = 73 from rfl, show ztg 70 5 = 75 from rfl, show ztg 93 82 = 175 from rfl, show ztg 99 76 = 175 from rfl, LM_d hL, LM_r10 hL, LM_k10 hL, LM_n10 hL, LM_d hL0, LM_r10 hL0, LM_k10 hL0, LM_n10 hL0, em]
    try simp (disch := omega) only [ii_lt, ii_le, ii_eq, ii_eq0, ii_lt0, ii_0lt, ii_le0, ii_0le, i_inT, i_natN, i_nat, ia_div, ia_rem, hs_ofI, i_1shl, i_or, i_bit, true_and, and_true, not_true_eq_false, not_false_eq_true, true_implies, false_implies, implies_true, Int.reduceLT, Int.reduceLE, Int.reduceEq, Int.reduceNeg, Int.toNat_natCast, Int.reduceToNat, Nat.reduceLeDiff, Nat.reduceAdd, tn_2, tn_2p, tn_48, tn_48r, tn_3, tn_3p, tn_3q, tn_p1, tn_d2, tn_12, ia_add, ia_sub, ia_mul]
    exact ⟨fun z => by omega, fun _ => hQ2 _ _ f0 rfl rfl⟩
  simp -implicitDefEqProofs only [zx_iconst, zx_bipush, zx_sipush, zx_lconst, zx_ldc, zx_ldcS, zx_ldc_w, zx_ldc2_w, zx_iload, zx_lload, zx_aload, zx_istore_n, zx_istore, zx_lstore_n, zx_lstore, zx_astore_n, zx_astore, zx_iinc, zx_iadd, zx_isub, zx_imul, zx_iand, zx_ior, zx_ixor, zx_ishl, zx_ishr, zx_iushr, zx_idiv, zx_irem, zx_ineg, zx_ladd, zx_lsub, zx_land, zx_lor, zx_lxor, zx_lneg, zx_lshl, zx_lushr, zx_i2l, zx_l2i, zx_lcmp, zx_dup, zx_dup2, zx_pop, zx_goto, zx_if_eq, zx_if_ne, zx_if_lt, zx_if_ge, zx_if_gt, zx_if_le, zx_icmp_eq, zx_icmp_ne, zx_icmp_lt, zx_icmp_ge, zx_icmp_gt, zx_icmp_le, zx_getfield, zx_putfield, zx_iaload, zx_laload, zx_aaload, zx_iastore, zx_lastore, zx_arraylength, zx_ireturn, zx_lreturn, zx_areturn, zx_return, zx_athrow, zx_static0, zx_static1, zx_virt1, zx_static2, zx_virt2, zx_static3, zx_virt3, zx_static4, zx_virt4, zx_static5, zx_virt5, zx_static6, zx_virt6, zx_static7, zx_virt7, zx_cpI, zx_cpL, ↓cpI, ↓cpL, zx_slen, zx_schr, zx_tsw, zx_spec3, new_X, zx_new1, zrun_nil, zrun_cons, ↓zgi_h, ↓zgi_n, ↓zgl_h, ↓zgl_n, ↓zgr_h, ↓zgr_n, zset1, zset2, zins_nil, zins_c, f3, cat_i, cat_l, cat_r, List.filter_cons, List.filter_nil, Bool.false_eq_true, l_of0, lv_args, Nat.reduceBEq, Nat.reduceAdd, Nat.reduceLeDiff, Nat.reduceLT, Bool.not_true, Bool.not_false, Bool.and_true, Bool.true_and, Bool.and_false, Bool.false_and, Nat.reduceEqDiff, reduceIte, List.contains_cons, List.contains_nil, Bool.or_false, Bool.or_true, Bool.false_or, Bool.true_or, Fin.isValue, Fin.val_zero, Fin.val_one, Fin.val_two, Fin.reduceFinMk, Option.toList_some, Option.toList_none, List.nil_append, List.cons_append, zwt_nil, zwt_i, zwt_l, zwt_r, zthr_nil, List.isEmpty_nil, zcE, ↓ar_k, lgc0, true_and, and_true, true_implies, implies_true, false_implies, forall_const, i_len, ob_0, ob_1, ↓bI_01, bI_0, not_true_eq_false, not_false_eq_true, Bool.not_eq_false, Bool.not_eq_true, ia_add, ia_sub, ia_mul, ia_neg, ↓ldI, ↓ldL, zaI_c, zaL_c, ↓zlen_I, ↓zlen_L, ↓stI, ↓stL, gD_sI, gN_sI, gI_sI, gJ_sI, gR_sI, gA_sI, gB_sI, gT_sI, gD_sJ, gN_sJ, gI_sJ, gJ_sJ, gR_sJ, gA_sJ, gB_sJ, gT_sJ, gD_sR, gN_sR, gI_sR, gJ_sR, gR_sR, gA_sR, gB_sR, gT_sR, gD_sA, gN_sA, gI_sA, gJ_sA, gR_sA, gA_sA, gB_sA, gT_sA, gD_sB, gN_sB, gI_sB, gJ_sB, gR_sB, gA_sB, gB_sB, gT_sB, zx_il0, zx_il1, zx_il2, zx_il3, zx_ll0, zx_ll1, zx_ll2, zx_ll3, zx_al0, zx_al1, zx_al2, zx_al3, e_has, e_bA, e_mn, e_mx, e_pcI, e_pcL, e_low, tc0, tc1, tc2, tc3, vc0_2, vc1_2, vc0_3, vc1_3, vc2_3, vc0_4, vc1_4, vc2_4, vc3_4, m_in, i10, i20, i00, i11, true_or, false_or, Bool.true_eq_false, eq_self, zml_285, zg285_0, zb285_0, zg285_18, zb285_18, zg285_19, zb285_19, zg285_28, zb285_28, zg285_38, zb285_38, zg285_73, zb285_73, zg285_75, zb285_75, zb285_78, zg285_143, zb285_143, zg285_163, zb285_163, zg285_164, zb285_164, zg285_169, zb285_169, zg285_175, zb285_175, zmc_234, zms_234, zow_234, zhd_234, zmc_207, zms_207, zow_207, zhd_207, zmc_212, zms_212, zow_212, zhd_212, zmc_285, zms_285, zow_285, zhd_285, zmc_221, zms_221, zow_221, zhd_221, ↓gf_11_10, ↓gf_11_28, ↓gf_11_54, ↓gf_11_55, ↓gf_11_56, ↓gv_11, ↓pp_11_0, ↓pp_11_54, ↓pp_11_55, ↓pq_11_0, ↓pq_11_54, ↓pq_11_55, ↓pw_11_0, ↓pw_11_54, ↓pw_11_55, show (Int8.ofInt 100).toInt32 = Int32.ofInt 100 from rfl, show ztg 11 7 = 18 from rfl, show ztg 137 6 = 143 from rfl, show ztg 140 29 = 169 from rfl, show ztg 145 18 = 163 from rfl, show ztg 15 4 = 19 from rfl, show ztg 160 4 = 164 from rfl, show ztg 172 (-94) = 78 from rfl, show ztg 23 5 = 28 from rfl, show ztg 33 5 = 38 from rfl, show ztg 62 11 = 73 from rfl, show ztg 66 7 = 73 from rfl, show ztg 70 5 = 75 from rfl, show ztg 93 82 = 175 from rfl, show ztg 99 76 = 175 from rfl, LM_d hL, LM_r10 hL, LM_k10 hL, LM_n10 hL, LM_d hL0, LM_r10 hL0, LM_k10 hL0, LM_n10 hL0, em]
  try simp (disch := omega) only [ii_lt, ii_le, ii_eq, ii_eq0, ii_lt0, ii_0lt, ii_le0, ii_0le, i_inT, i_natN, i_nat, ia_div, ia_rem, hs_ofI, i_1shl, i_or, i_bit, true_and, and_true, not_true_eq_false, not_false_eq_true, true_implies, false_implies, implies_true, Int.reduceLT, Int.reduceLE, Int.reduceEq, Int.reduceNeg, Int.toNat_natCast, Int.reduceToNat, Nat.reduceLeDiff, Nat.reduceAdd, tn_2, tn_2p, tn_48, tn_48r, tn_3, tn_3p, tn_3q, tn_p1, tn_d2, tn_12, ia_add, ia_sub, ia_mul]
  refine ⟨fun _ => ?_, fun z => by omega⟩
  refine m_lays hL0 (by omega) (fun f1 g1 hf1 hg1 => ?_)
  have hr1 : RI f1 g1 (xH s w) := ⟨fun a u ha hu => by rw [hf1 a ha]; exact ((MI_H h0).2 w (by omega)).1 a u ha hu, fun a u ha hu => by rw [hg1 a ha]; exact ((MI_H h0).2 w (by omega)).2 a u ha hu⟩
  have k1 : fK σ (sA (sA (sI σ 88 0 (Int32.ofInt 0)) 608 f1) 609 g1) := by (repeat' (first | exact fK_refl | refine fK_B ?_ (.inl (by unfold cor2; omega)) | refine fK_A ?_ (.inl (by unfold cor2; omega)) | refine fK_I ?_ (by unfold cof; omega) | refine fK_J ?_))
  have hr2 : RI (gA (sA (sA (sI σ 88 0 (Int32.ofInt 0)) 608 f1) 609 g1) 608) (gA (sA (sA (sI σ 88 0 (Int32.ofInt 0)) 608 f1) 609 g1) 609) (xH s w) := by rw [gA_sA, if_neg (by decide), gA_self, gA_self]; exact hr1
  have e0 : gI (sA (sA (sI σ 88 0 (Int32.ofInt 0)) 608 f1) 609 g1) 88 0 = Int32.ofInt 0 := rfl
  generalize sA (sA (sI σ 88 0 (Int32.ofInt 0)) 608 f1) 609 g1 = τ1 at *
  have hL1 := MI_L (MI_fK k1 h)
  have fg := FG_of (f1 := f1) (g1 := g1) h k1 hr2 hm12
  simp -implicitDefEqProofs only [zx_iconst, zx_bipush, zx_sipush, zx_lconst, zx_ldc, zx_ldcS, zx_ldc_w, zx_ldc2_w, zx_iload, zx_lload, zx_aload, zx_istore_n, zx_istore, zx_lstore_n, zx_lstore, zx_astore_n, zx_astore, zx_iinc, zx_iadd, zx_isub, zx_imul, zx_iand, zx_ior, zx_ixor, zx_ishl, zx_ishr, zx_iushr, zx_idiv, zx_irem, zx_ineg, zx_ladd, zx_lsub, zx_land, zx_lor, zx_lxor, zx_lneg, zx_lshl, zx_lushr, zx_i2l, zx_l2i, zx_lcmp, zx_dup, zx_dup2, zx_pop, zx_goto, zx_if_eq, zx_if_ne, zx_if_lt, zx_if_ge, zx_if_gt, zx_if_le, zx_icmp_eq, zx_icmp_ne, zx_icmp_lt, zx_icmp_ge, zx_icmp_gt, zx_icmp_le, zx_getfield, zx_putfield, zx_iaload, zx_laload, zx_aaload, zx_iastore, zx_lastore, zx_arraylength, zx_ireturn, zx_lreturn, zx_areturn, zx_return, zx_athrow, zx_static0, zx_static1, zx_virt1, zx_static2, zx_virt2, zx_static3, zx_virt3, zx_static4, zx_virt4, zx_static5, zx_virt5, zx_static6, zx_virt6, zx_static7, zx_virt7, zx_cpI, zx_cpL, ↓cpI, ↓cpL, zx_slen, zx_schr, zx_tsw, zx_spec3, new_X, zx_new1, zrun_nil, zrun_cons, ↓zgi_h, ↓zgi_n, ↓zgl_h, ↓zgl_n, ↓zgr_h, ↓zgr_n, zset1, zset2, zins_nil, zins_c, f3, cat_i, cat_l, cat_r, List.filter_cons, List.filter_nil, Bool.false_eq_true, l_of0, lv_args, Nat.reduceBEq, Nat.reduceAdd, Nat.reduceLeDiff, Nat.reduceLT, Bool.not_true, Bool.not_false, Bool.and_true, Bool.true_and, Bool.and_false, Bool.false_and, Nat.reduceEqDiff, reduceIte, List.contains_cons, List.contains_nil, Bool.or_false, Bool.or_true, Bool.false_or, Bool.true_or, Fin.isValue, Fin.val_zero, Fin.val_one, Fin.val_two, Fin.reduceFinMk, Option.toList_some, Option.toList_none, List.nil_append, List.cons_append, zwt_nil, zwt_i, zwt_l, zwt_r, zthr_nil, List.isEmpty_nil, zcE, ↓ar_k, lgc0, true_and, and_true, true_implies, implies_true, false_implies, forall_const, i_len, ob_0, ob_1, ↓bI_01, bI_0, not_true_eq_false, not_false_eq_true, Bool.not_eq_false, Bool.not_eq_true, ia_add, ia_sub, ia_mul, ia_neg, ↓ldI, ↓ldL, zaI_c, zaL_c, ↓zlen_I, ↓zlen_L, ↓stI, ↓stL, gD_sI, gN_sI, gI_sI, gJ_sI, gR_sI, gA_sI, gB_sI, gT_sI, gD_sJ, gN_sJ, gI_sJ, gJ_sJ, gR_sJ, gA_sJ, gB_sJ, gT_sJ, gD_sR, gN_sR, gI_sR, gJ_sR, gR_sR, gA_sR, gB_sR, gT_sR, gD_sA, gN_sA, gI_sA, gJ_sA, gR_sA, gA_sA, gB_sA, gT_sA, gD_sB, gN_sB, gI_sB, gJ_sB, gR_sB, gA_sB, gB_sB, gT_sB, zx_il0, zx_il1, zx_il2, zx_il3, zx_ll0, zx_ll1, zx_ll2, zx_ll3, zx_al0, zx_al1, zx_al2, zx_al3, e_has, e_bA, e_mn, e_mx, e_pcI, e_pcL, e_low, tc0, tc1, tc2, tc3, vc0_2, vc1_2, vc0_3, vc1_3, vc2_3, vc0_4, vc1_4, vc2_4, vc3_4, m_in, i10, i20, i00, i11, true_or, false_or, Bool.true_eq_false, eq_self, zml_285, zg285_0, zb285_0, zg285_18, zb285_18, zg285_19, zb285_19, zg285_28, zb285_28, zg285_38, zb285_38, zg285_73, zb285_73, zg285_75, zb285_75, zb285_78, zg285_143, zb285_143, zg285_163, zb285_163, zg285_164, zb285_164, zg285_169, zb285_169, zg285_175, zb285_175, zmc_234, zms_234, zow_234, zhd_234, zmc_207, zms_207, zow_207, zhd_207, zmc_212, zms_212, zow_212, zhd_212, zmc_285, zms_285, zow_285, zhd_285, zmc_221, zms_221, zow_221, zhd_221, ↓gf_11_10, ↓gf_11_28, ↓gf_11_54, ↓gf_11_55, ↓gf_11_56, ↓gv_11, ↓pp_11_0, ↓pp_11_54, ↓pp_11_55, ↓pq_11_0, ↓pq_11_54, ↓pq_11_55, ↓pw_11_0, ↓pw_11_54, ↓pw_11_55, show (Int8.ofInt 100).toInt32 = Int32.ofInt 100 from rfl, show ztg 11 7 = 18 from rfl, show ztg 137 6 = 143 from rfl, show ztg 140 29 = 169 from rfl, show ztg 145 18 = 163 from rfl, show ztg 15 4 = 19 from rfl, show ztg 160 4 = 164 from rfl, show ztg 172 (-94) = 78 from rfl, show ztg 23 5 = 28 from rfl, show ztg 33 5 = 38 from rfl, show ztg 62 11 = 73 from rfl, show ztg 66 7 = 73 from rfl, show ztg 70 5 = 75 from rfl, show ztg 93 82 = 175 from rfl, show ztg 99 76 = 175 from rfl, LM_d hL1, LM_r10 hL1, LM_k10 hL1, LM_n10 hL1]
  refine m_findBreaks fg (by omega) (fun τ2 fb e56 _ => ?_)
  have k2 : fK σ τ2 := fK_trans k1 fb.1
  have e02 : gI τ2 88 0 = Int32.ofInt 0 := by rw [fb.2.2.2.2 0 (by omega)]; exact e0
  have hL2 := MI_L (MI_fK k2 h)
  have hr3 : RI (gA τ2 608) (gA τ2 609) (xH s w) := by rw [fb.2.1, fb.2.2.1]; exact hr2
  have sKe : sK (xT s) (nx (xT s) (xH s w)) (xU s) (xm s) v = match (sT (xT s) (nx (xT s) (xH s w)) (xU s) (-1) (xm s)).1 with
    | none => none
    | some x => if x = 0 ∨ v < 0 then none else lw (fun c => c < 2400 ∧ sE (xT s) (nx (xT s) (xH s w)) (xU s) (xm s) x c = true ∧ (cp (sE (xT s) (nx (xT s) (xH s w)) (xU s) (xm s) x) c : Int) = v) := if_neg c2
  have zl : ∀ ban x, (sT (xT s) (nx (xT s) (xH s w)) (xU s) ban (xm s)).1 = some x → x ≤ 12 := by
    intro ban x hx
    obtain ⟨_, ⟨e, _, he⟩, _⟩ := ov_m 48 hx
    have := st_le (xm s - 2) e x he
    omega
  clear k1 fb fg
  generalize hsT : sT (xT s) (nx (xT s) (xH s w)) (xU s) (-1) (xm s) = z at *
  cases ez : z.1 with
  | none =>
    rw [ez] at sKe e56
    rw [sKe] at hQ2
    simp -implicitDefEqProofs only [zx_iconst, zx_bipush, zx_sipush, zx_lconst, zx_ldc, zx_ldcS, zx_ldc_w, zx_ldc2_w, zx_iload, zx_lload, zx_aload, zx_istore_n, zx_istore, zx_lstore_n, zx_lstore, zx_astore_n, zx_astore, zx_iinc, zx_iadd, zx_isub, zx_imul, zx_iand, zx_ior, zx_ixor, zx_ishl, zx_ishr, zx_iushr, zx_idiv, zx_irem, zx_ineg, zx_ladd, zx_lsub, zx_land, zx_lor, zx_lxor, zx_lneg, zx_lshl, zx_lushr, zx_i2l, zx_l2i, zx_lcmp, zx_dup, zx_dup2, zx_pop, zx_goto, zx_if_eq, zx_if_ne, zx_if_lt, zx_if_ge, zx_if_gt, zx_if_le, zx_icmp_eq, zx_icmp_ne, zx_icmp_lt, zx_icmp_ge, zx_icmp_gt, zx_icmp_le, zx_getfield, zx_putfield, zx_iaload, zx_laload, zx_aaload, zx_iastore, zx_lastore, zx_arraylength, zx_ireturn, zx_lreturn, zx_areturn, zx_return, zx_athrow, zx_static0, zx_static1, zx_virt1, zx_static2, zx_virt2, zx_static3, zx_virt3, zx_static4, zx_virt4, zx_static5, zx_virt5, zx_static6, zx_virt6, zx_static7, zx_virt7, zx_cpI, zx_cpL, ↓cpI, ↓cpL, zx_slen, zx_schr, zx_tsw, zx_spec3, new_X, zx_new1, zrun_nil, zrun_cons, ↓zgi_h, ↓zgi_n, ↓zgl_h, ↓zgl_n, ↓zgr_h, ↓zgr_n, zset1, zset2, zins_nil, zins_c, f3, cat_i, cat_l, cat_r, List.filter_cons, List.filter_nil, Bool.false_eq_true, l_of0, lv_args, Nat.reduceBEq, Nat.reduceAdd, Nat.reduceLeDiff, Nat.reduceLT, Bool.not_true, Bool.not_false, Bool.and_true, Bool.true_and, Bool.and_false, Bool.false_and, Nat.reduceEqDiff, reduceIte, List.contains_cons, List.contains_nil, Bool.or_false, Bool.or_true, Bool.false_or, Bool.true_or, Fin.isValue, Fin.val_zero, Fin.val_one, Fin.val_two, Fin.reduceFinMk, Option.toList_some, Option.toList_none, List.nil_append, List.cons_append, zwt_nil, zwt_i, zwt_l, zwt_r, zthr_nil, List.isEmpty_nil, zcE, ↓ar_k, lgc0, true_and, and_true, true_implies, implies_true, false_implies, forall_const, i_len, ob_0, ob_1, ↓bI_01, bI_0, not_true_eq_false, not_false_eq_true, Bool.not_eq_false, Bool.not_eq_true, ia_add, ia_sub, ia_mul, ia_neg, ↓ldI, ↓ldL, zaI_c, zaL_c, ↓zlen_I, ↓zlen_L, ↓stI, ↓stL, gD_sI, gN_sI, gI_sI, gJ_sI, gR_sI, gA_sI, gB_sI, gT_sI, gD_sJ, gN_sJ, gI_sJ, gJ_sJ, gR_sJ, gA_sJ, gB_sJ, gT_sJ, gD_sR, gN_sR, gI_sR, gJ_sR, gR_sR, gA_sR, gB_sR, gT_sR, gD_sA, gN_sA, gI_sA, gJ_sA, gR_sA, gA_sA, gB_sA, gT_sA, gD_sB, gN_sB, gI_sB, gJ_sB, gR_sB, gA_sB, gB_sB, gT_sB, zx_il0, zx_il1, zx_il2, zx_il3, zx_ll0, zx_ll1, zx_ll2, zx_ll3, zx_al0, zx_al1, zx_al2, zx_al3, e_has, e_bA, e_mn, e_mx, e_pcI, e_pcL, e_low, tc0, tc1, tc2, tc3, vc0_2, vc1_2, vc0_3, vc1_3, vc2_3, vc0_4, vc1_4, vc2_4, vc3_4, m_in, i10, i20, i00, i11, true_or, false_or, Bool.true_eq_false, eq_self, zml_285, zg285_0, zb285_0, zg285_18, zb285_18, zg285_19, zb285_19, zg285_28, zb285_28, zg285_38, zb285_38, zg285_73, zb285_73, zg285_75, zb285_75, zb285_78, zg285_143, zb285_143, zg285_163, zb285_163, zg285_164, zb285_164, zg285_169, zb285_169, zg285_175, zb285_175, zmc_234, zms_234, zow_234, zhd_234, zmc_207, zms_207, zow_207, zhd_207, zmc_212, zms_212, zow_212, zhd_212, zmc_285, zms_285, zow_285, zhd_285, zmc_221, zms_221, zow_221, zhd_221, ↓gf_11_10, ↓gf_11_28, ↓gf_11_54, ↓gf_11_55, ↓gf_11_56, ↓gv_11, ↓pp_11_0, ↓pp_11_54, ↓pp_11_55, ↓pq_11_0, ↓pq_11_54, ↓pq_11_55, ↓pw_11_0, ↓pw_11_54, ↓pw_11_55, show (Int8.ofInt 100).toInt32 = Int32.ofInt 100 from rfl, show ztg 11 7 = 18 from rfl, show ztg 137 6 = 143 from rfl, show ztg 140 29 = 169 from rfl, show ztg 145 18 = 163 from rfl, show ztg 15 4 = 19 from rfl, show ztg 160 4 = 164 from rfl, show ztg 172 (-94) = 78 from rfl, show ztg 23 5 = 28 from rfl, show ztg 33 5 = 38 from rfl, show ztg 62 11 = 73 from rfl, show ztg 66 7 = 73 from rfl, show ztg 70 5 = 75 from rfl, show ztg 93 82 = 175 from rfl, show ztg 99 76 = 175 from rfl, LM_d hL2, LM_r10 hL2, LM_k10 hL2, LM_n10 hL2, e56, show fr 1000000000 none = 1000000000 from rfl, show (Int32.ofInt ((1000000000 : Nat) : Int) = Int32.ofInt 1000000000) = True from eq_true rfl]
    exact hQ2 _ _ k2 e02 rfl
  | some x =>
    have hx := zl (-1) x (by rw [hsT]; exact ez)
    rw [ez] at sKe e56
    have e56 : gI τ2 88 56 = Int32.ofInt ((x : Nat) : Int) := e56
    have q1 : (Int32.ofInt ((x : Nat) : Int) = Int32.ofInt 1000000000) = False := by rw [ii_eq (by omega) (by omega)]; exact eq_false (by omega)
    simp -implicitDefEqProofs only [zx_iconst, zx_bipush, zx_sipush, zx_lconst, zx_ldc, zx_ldcS, zx_ldc_w, zx_ldc2_w, zx_iload, zx_lload, zx_aload, zx_istore_n, zx_istore, zx_lstore_n, zx_lstore, zx_astore_n, zx_astore, zx_iinc, zx_iadd, zx_isub, zx_imul, zx_iand, zx_ior, zx_ixor, zx_ishl, zx_ishr, zx_iushr, zx_idiv, zx_irem, zx_ineg, zx_ladd, zx_lsub, zx_land, zx_lor, zx_lxor, zx_lneg, zx_lshl, zx_lushr, zx_i2l, zx_l2i, zx_lcmp, zx_dup, zx_dup2, zx_pop, zx_goto, zx_if_eq, zx_if_ne, zx_if_lt, zx_if_ge, zx_if_gt, zx_if_le, zx_icmp_eq, zx_icmp_ne, zx_icmp_lt, zx_icmp_ge, zx_icmp_gt, zx_icmp_le, zx_getfield, zx_putfield, zx_iaload, zx_laload, zx_aaload, zx_iastore, zx_lastore, zx_arraylength, zx_ireturn, zx_lreturn, zx_areturn, zx_return, zx_athrow, zx_static0, zx_static1, zx_virt1, zx_static2, zx_virt2, zx_static3, zx_virt3, zx_static4, zx_virt4, zx_static5, zx_virt5, zx_static6, zx_virt6, zx_static7, zx_virt7, zx_cpI, zx_cpL, ↓cpI, ↓cpL, zx_slen, zx_schr, zx_tsw, zx_spec3, new_X, zx_new1, zrun_nil, zrun_cons, ↓zgi_h, ↓zgi_n, ↓zgl_h, ↓zgl_n, ↓zgr_h, ↓zgr_n, zset1, zset2, zins_nil, zins_c, f3, cat_i, cat_l, cat_r, List.filter_cons, List.filter_nil, Bool.false_eq_true, l_of0, lv_args, Nat.reduceBEq, Nat.reduceAdd, Nat.reduceLeDiff, Nat.reduceLT, Bool.not_true, Bool.not_false, Bool.and_true, Bool.true_and, Bool.and_false, Bool.false_and, Nat.reduceEqDiff, reduceIte, List.contains_cons, List.contains_nil, Bool.or_false, Bool.or_true, Bool.false_or, Bool.true_or, Fin.isValue, Fin.val_zero, Fin.val_one, Fin.val_two, Fin.reduceFinMk, Option.toList_some, Option.toList_none, List.nil_append, List.cons_append, zwt_nil, zwt_i, zwt_l, zwt_r, zthr_nil, List.isEmpty_nil, zcE, ↓ar_k, lgc0, true_and, and_true, true_implies, implies_true, false_implies, forall_const, i_len, ob_0, ob_1, ↓bI_01, bI_0, not_true_eq_false, not_false_eq_true, Bool.not_eq_false, Bool.not_eq_true, ia_add, ia_sub, ia_mul, ia_neg, ↓ldI, ↓ldL, zaI_c, zaL_c, ↓zlen_I, ↓zlen_L, ↓stI, ↓stL, gD_sI, gN_sI, gI_sI, gJ_sI, gR_sI, gA_sI, gB_sI, gT_sI, gD_sJ, gN_sJ, gI_sJ, gJ_sJ, gR_sJ, gA_sJ, gB_sJ, gT_sJ, gD_sR, gN_sR, gI_sR, gJ_sR, gR_sR, gA_sR, gB_sR, gT_sR, gD_sA, gN_sA, gI_sA, gJ_sA, gR_sA, gA_sA, gB_sA, gT_sA, gD_sB, gN_sB, gI_sB, gJ_sB, gR_sB, gA_sB, gB_sB, gT_sB, zx_il0, zx_il1, zx_il2, zx_il3, zx_ll0, zx_ll1, zx_ll2, zx_ll3, zx_al0, zx_al1, zx_al2, zx_al3, e_has, e_bA, e_mn, e_mx, e_pcI, e_pcL, e_low, tc0, tc1, tc2, tc3, vc0_2, vc1_2, vc0_3, vc1_3, vc2_3, vc0_4, vc1_4, vc2_4, vc3_4, m_in, i10, i20, i00, i11, true_or, false_or, Bool.true_eq_false, eq_self, zml_285, zg285_0, zb285_0, zg285_18, zb285_18, zg285_19, zb285_19, zg285_28, zb285_28, zg285_38, zb285_38, zg285_73, zb285_73, zg285_75, zb285_75, zb285_78, zg285_143, zb285_143, zg285_163, zb285_163, zg285_164, zb285_164, zg285_169, zb285_169, zg285_175, zb285_175, zmc_234, zms_234, zow_234, zhd_234, zmc_207, zms_207, zow_207, zhd_207, zmc_212, zms_212, zow_212, zhd_212, zmc_285, zms_285, zow_285, zhd_285, zmc_221, zms_221, zow_221, zhd_221, ↓gf_11_10, ↓gf_11_28, ↓gf_11_54, ↓gf_11_55, ↓gf_11_56, ↓gv_11, ↓pp_11_0, ↓pp_11_54, ↓pp_11_55, ↓pq_11_0, ↓pq_11_54, ↓pq_11_55, ↓pw_11_0, ↓pw_11_54, ↓pw_11_55, show (Int8.ofInt 100).toInt32 = Int32.ofInt 100 from rfl, show ztg 11 7 = 18 from rfl, show ztg 137 6 = 143 from rfl, show ztg 140 29 = 169 from rfl, show ztg 145 18 = 163 from rfl, show ztg 15 4 = 19 from rfl, show ztg 160 4 = 164 from rfl, show ztg 172 (-94) = 78 from rfl, show ztg 23 5 = 28 from rfl, show ztg 33 5 = 38 from rfl, show ztg 62 11 = 73 from rfl, show ztg 66 7 = 73 from rfl, show ztg 70 5 = 75 from rfl, show ztg 93 82 = 175 from rfl, show ztg 99 76 = 175 from rfl, LM_d hL2, LM_r10 hL2, LM_k10 hL2, LM_n10 hL2, e56, q1]
    try simp (disch := omega) only [ii_lt, ii_le, ii_eq, ii_eq0, ii_lt0, ii_0lt, ii_le0, ii_0le, i_inT, i_natN, i_nat, ia_div, ia_rem, hs_ofI, i_1shl, i_or, i_bit, true_and, and_true, not_true_eq_false, not_false_eq_true, true_implies, false_implies, implies_true, Int.reduceLT, Int.reduceLE, Int.reduceEq, Int.reduceNeg, Int.toNat_natCast, Int.reduceToNat, Nat.reduceLeDiff, Nat.reduceAdd, tn_2, tn_2p, tn_48, tn_48r, tn_3, tn_3p, tn_3q, tn_p1, tn_d2, tn_12, ia_add, ia_sub, ia_mul]
    have no : (x = 0 ∨ v < 0) → Q (.inl (some (.int (Int32.ofInt (-1))))) (hOf τ2) := by
      intro q
      refine hQ2 _ _ k2 e02 ?_
      rw [sKe]
      simp only [if_pos q]
      rfl
    refine ⟨fun z => no (.inl (by omega)), fun z => ⟨fun z2 => ?_, fun z2 => no (.inr (by omega))⟩⟩
    rw [show sK (xT s) (nx (xT s) (xH s w)) (xU s) (xm s) v = lw (fun c => c < 2400 ∧ sE (xT s) (nx (xT s) (xH s w)) (xU s) (xm s) x c = true ∧ (cp (sE (xT s) (nx (xT s) (xH s w)) (xU s) (xm s) x) c : Int) = v) from by rw [sKe]; exact if_neg (by omega)] at hQ2
    generalize hR : nx (xT s) (xH s w) = R at *
    obtain ⟨N, hN⟩ : ∃ N, N = nS (xT s) * nS (xT s) := ⟨_, rfl⟩
    have hN2 : N ≤ 576 := by rw [hN]; exact Nat.mul_le_mul h24 h24
    have eN : (nS (xT s) : Int) * (nS (xT s) : Int) = (N : Int) := by rw [hN]; rfl
    have sEn : ∀ c : Nat, (∀ a b, a < 2 * nS (xT s) → b < 2 * nS (xT s) → pr a b ≠ c) → sE (xT s) R (xU s) (xm s) x c = false := by
      intro c hc
      unfold sE
      rw [cB_f, sT_ban (c := (c : Int)) (fun a b ha hb z => hc a b ha hb (by omega)), hsT]
      exact fun q => q ez
    generalize hE : sE (xT s) R (xU s) (xm s) x = E at *
    have cps : ∀ p, p < N → cp E (cde (nS (xT s)) p) = cp (fun q => E (cde (nS (xT s)) q)) p := by
      intro p
      induction p with
      | zero =>
        intro _
        show cp E (0 / nS (xT s) * 100 + 0 % nS (xT s)) = 0
        rw [Nat.zero_div, Nat.zero_mod]
        rfl
      | succ p ih =>
        intro hp
        have k := cde_mono h24 (show p + 1 < nS (xT s) * nS (xT s) from by omega)
        have g := cp_gap (p := E) (a := cde (nS (xT s)) p + 1) (cde (nS (xT s)) (p + 1) - (cde (nS (xT s)) p + 1)) (fun c h1 h2 => sEn c (k.2 c (by omega) (by omega)))
        rw [show cde (nS (xT s)) p + 1 + (cde (nS (xT s)) (p + 1) - (cde (nS (xT s)) p + 1)) = cde (nS (xT s)) (p + 1) from by omega] at g
        rw [g]
        show cp E (cde (nS (xT s)) p) + _ = cp (fun q => E (cde (nS (xT s)) q)) p + _
        rw [ih (by omega)]
    have mono : ∀ p p2, p ≤ p2 → cp (fun q => E (cde (nS (xT s)) q)) p ≤ cp (fun q => E (cde (nS (xT s)) q)) p2 := fun p p2 hp => cp_le2 hp
    have facts : ∀ {τ}, SX σ τ (xH s w) → LM τ ∧ MT τ (xT s) ∧ MU τ (xU s) (xm s) ∧ 1283 ≤ gT τ := fun {τ} sx => by
      have hM := MI_fK sx.1 h
      have hLt : LM τ := LM_eq (MI_L hM) rfl rfl rfl
      refine ⟨hLt, MT_eq (MI_T hM) hwf hLt (fun a _ _ => rfl), ⟨?_, fun j hj => ?_⟩, (show 1283 ≤ gT (sI τ 88 54 (Int32.ofInt (-1))) from MI_g hM)⟩
      · have := (MI_U hM).1
        rw [gI_sI, if_neg (by omega)] at this
        exact this
      · have := (MI_U hM).2 j hj
        rw [gA_sI] at this
        exact this
    have out : ∀ τ, SX σ τ (xH s w) → ∀ (o : Option Nat) (l : Int) (p : Nat), p ≤ N → (o = none → p = N) → (∀ c, o = some c → c < 2400) → lw (fun c => c < 2400 ∧ E c = true ∧ (cp E c : Int) = v) = o → zfp zP (zcall zP 285) 285 Q 78 [(0, .ref 88), (3, .int (Int32.ofInt x)), (4, .int (Int32.ofInt l)), (5, .int (Int32.ofInt (oI o))), (6, .int (Int32.ofInt p))] [] (hOf τ) 0 0 := by
      intro τ sx o l p hp hon hoc hlw
      obtain ⟨hLt, hTt, hUt, hgt⟩ := facts sx
      rw [hlw] at hQ2
      have fin : Q (.inl (some (.int (Int32.ofInt (oI o))))) (hOf (sI τ 88 54 (Int32.ofInt (-1)))) := hQ2 _ _ sx.1 (by rw [gI_sI, if_neg (by omega)]; exact sx.2.2) rfl
      rw [zg285_78]
      cases o with
      | none =>
        have hp2 := hon rfl
        simp -implicitDefEqProofs only [zx_iconst, zx_bipush, zx_sipush, zx_lconst, zx_ldc, zx_ldcS, zx_ldc_w, zx_ldc2_w, zx_iload, zx_lload, zx_aload, zx_istore_n, zx_istore, zx_lstore_n, zx_lstore, zx_astore_n, zx_astore, zx_iinc, zx_iadd, zx_isub, zx_imul, zx_iand, zx_ior, zx_ixor, zx_ishl, zx_ishr, zx_iushr, zx_idiv, zx_irem, zx_ineg, zx_ladd, zx_lsub, zx_land, zx_lor, zx_lxor, zx_lneg, zx_lshl, zx_lushr, zx_i2l, zx_l2i, zx_lcmp, zx_dup, zx_dup2, zx_pop, zx_goto, zx_if_eq, zx_if_ne, zx_if_lt, zx_if_ge, zx_if_gt, zx_if_le, zx_icmp_eq, zx_icmp_ne, zx_icmp_lt, zx_icmp_ge, zx_icmp_gt, zx_icmp_le, zx_getfield, zx_putfield, zx_iaload, zx_laload, zx_aaload, zx_iastore, zx_lastore, zx_arraylength, zx_ireturn, zx_lreturn, zx_areturn, zx_return, zx_athrow, zx_static0, zx_static1, zx_virt1, zx_static2, zx_virt2, zx_static3, zx_virt3, zx_static4, zx_virt4, zx_static5, zx_virt5, zx_static6, zx_virt6, zx_static7, zx_virt7, zx_cpI, zx_cpL, ↓cpI, ↓cpL, zx_slen, zx_schr, zx_tsw, zx_spec3, new_X, zx_new1, zrun_nil, zrun_cons, ↓zgi_h, ↓zgi_n, ↓zgl_h, ↓zgl_n, ↓zgr_h, ↓zgr_n, zset1, zset2, zins_nil, zins_c, f3, cat_i, cat_l, cat_r, List.filter_cons, List.filter_nil, Bool.false_eq_true, l_of0, lv_args, Nat.reduceBEq, Nat.reduceAdd, Nat.reduceLeDiff, Nat.reduceLT, Bool.not_true, Bool.not_false, Bool.and_true, Bool.true_and, Bool.and_false, Bool.false_and, Nat.reduceEqDiff, reduceIte, List.contains_cons, List.contains_nil, Bool.or_false, Bool.or_true, Bool.false_or, Bool.true_or, Fin.isValue, Fin.val_zero, Fin.val_one, Fin.val_two, Fin.reduceFinMk, Option.toList_some, Option.toList_none, List.nil_append, List.cons_append, zwt_nil, zwt_i, zwt_l, zwt_r, zthr_nil, List.isEmpty_nil, zcE, ↓ar_k, lgc0, true_and, and_true, true_implies, implies_true, false_implies, forall_const, i_len, ob_0, ob_1, ↓bI_01, bI_0, not_true_eq_false, not_false_eq_true, Bool.not_eq_false, Bool.not_eq_true, ia_add, ia_sub, ia_mul, ia_neg, ↓ldI, ↓ldL, zaI_c, zaL_c, ↓zlen_I, ↓zlen_L, ↓stI, ↓stL, gD_sI, gN_sI, gI_sI, gJ_sI, gR_sI, gA_sI, gB_sI, gT_sI, gD_sJ, gN_sJ, gI_sJ, gJ_sJ, gR_sJ, gA_sJ, gB_sJ, gT_sJ, gD_sR, gN_sR, gI_sR, gJ_sR, gR_sR, gA_sR, gB_sR, gT_sR, gD_sA, gN_sA, gI_sA, gJ_sA, gR_sA, gA_sA, gB_sA, gT_sA, gD_sB, gN_sB, gI_sB, gJ_sB, gR_sB, gA_sB, gB_sB, gT_sB, zx_il0, zx_il1, zx_il2, zx_il3, zx_ll0, zx_ll1, zx_ll2, zx_ll3, zx_al0, zx_al1, zx_al2, zx_al3, e_has, e_bA, e_mn, e_mx, e_pcI, e_pcL, e_low, tc0, tc1, tc2, tc3, vc0_2, vc1_2, vc0_3, vc1_3, vc2_3, vc0_4, vc1_4, vc2_4, vc3_4, m_in, i10, i20, i00, i11, true_or, false_or, Bool.true_eq_false, eq_self, zml_285, zg285_0, zb285_0, zg285_18, zb285_18, zg285_19, zb285_19, zg285_28, zb285_28, zg285_38, zb285_38, zg285_73, zb285_73, zg285_75, zb285_75, zb285_78, zg285_143, zb285_143, zg285_163, zb285_163, zg285_164, zb285_164, zg285_169, zb285_169, zg285_175, zb285_175, zmc_234, zms_234, zow_234, zhd_234, zmc_207, zms_207, zow_207, zhd_207, zmc_212, zms_212, zow_212, zhd_212, zmc_285, zms_285, zow_285, zhd_285, zmc_221, zms_221, zow_221, zhd_221, ↓gf_11_10, ↓gf_11_28, ↓gf_11_54, ↓gf_11_55, ↓gf_11_56, ↓gv_11, ↓pp_11_0, ↓pp_11_54, ↓pp_11_55, ↓pq_11_0, ↓pq_11_54, ↓pq_11_55, ↓pw_11_0, ↓pw_11_54, ↓pw_11_55, show (Int8.ofInt 100).toInt32 = Int32.ofInt 100 from rfl, show ztg 11 7 = 18 from rfl, show ztg 137 6 = 143 from rfl, show ztg 140 29 = 169 from rfl, show ztg 145 18 = 163 from rfl, show ztg 15 4 = 19 from rfl, show ztg 160 4 = 164 from rfl, show ztg 172 (-94) = 78 from rfl, show ztg 23 5 = 28 from rfl, show ztg 33 5 = 38 from rfl, show ztg 62 11 = 73 from rfl, show ztg 66 7 = 73 from rfl, show ztg 70 5 = 75 from rfl, show ztg 93 82 = 175 from rfl, show ztg 99 76 = 175 from rfl, LM_d hLt, LM_r10 hLt, LM_k10 hLt, LM_n10 hLt, MT_1 hTt, eN]
        try simp (disch := omega) only [ii_lt, ii_le, ii_eq, ii_eq0, ii_lt0, ii_0lt, ii_le0, ii_0le, i_inT, i_natN, i_nat, ia_div, ia_rem, hs_ofI, i_1shl, i_or, i_bit, true_and, and_true, not_true_eq_false, not_false_eq_true, true_implies, false_implies, implies_true, Int.reduceLT, Int.reduceLE, Int.reduceEq, Int.reduceNeg, Int.toNat_natCast, Int.reduceToNat, Nat.reduceLeDiff, Nat.reduceAdd, tn_2, tn_2p, tn_48, tn_48r, tn_3, tn_3p, tn_3q, tn_p1, tn_d2, tn_12, ia_add, ia_sub, ia_mul]
        exact ⟨fun _ => fin, fun z => by omega⟩
      | some c =>
        have hc := hoc c rfl
        simp -implicitDefEqProofs only [zx_iconst, zx_bipush, zx_sipush, zx_lconst, zx_ldc, zx_ldcS, zx_ldc_w, zx_ldc2_w, zx_iload, zx_lload, zx_aload, zx_istore_n, zx_istore, zx_lstore_n, zx_lstore, zx_astore_n, zx_astore, zx_iinc, zx_iadd, zx_isub, zx_imul, zx_iand, zx_ior, zx_ixor, zx_ishl, zx_ishr, zx_iushr, zx_idiv, zx_irem, zx_ineg, zx_ladd, zx_lsub, zx_land, zx_lor, zx_lxor, zx_lneg, zx_lshl, zx_lushr, zx_i2l, zx_l2i, zx_lcmp, zx_dup, zx_dup2, zx_pop, zx_goto, zx_if_eq, zx_if_ne, zx_if_lt, zx_if_ge, zx_if_gt, zx_if_le, zx_icmp_eq, zx_icmp_ne, zx_icmp_lt, zx_icmp_ge, zx_icmp_gt, zx_icmp_le, zx_getfield, zx_putfield, zx_iaload, zx_laload, zx_aaload, zx_iastore, zx_lastore, zx_arraylength, zx_ireturn, zx_lreturn, zx_areturn, zx_return, zx_athrow, zx_static0, zx_static1, zx_virt1, zx_static2, zx_virt2, zx_static3, zx_virt3, zx_static4, zx_virt4, zx_static5, zx_virt5, zx_static6, zx_virt6, zx_static7, zx_virt7, zx_cpI, zx_cpL, ↓cpI, ↓cpL, zx_slen, zx_schr, zx_tsw, zx_spec3, new_X, zx_new1, zrun_nil, zrun_cons, ↓zgi_h, ↓zgi_n, ↓zgl_h, ↓zgl_n, ↓zgr_h, ↓zgr_n, zset1, zset2, zins_nil, zins_c, f3, cat_i, cat_l, cat_r, List.filter_cons, List.filter_nil, Bool.false_eq_true, l_of0, lv_args, Nat.reduceBEq, Nat.reduceAdd, Nat.reduceLeDiff, Nat.reduceLT, Bool.not_true, Bool.not_false, Bool.and_true, Bool.true_and, Bool.and_false, Bool.false_and, Nat.reduceEqDiff, reduceIte, List.contains_cons, List.contains_nil, Bool.or_false, Bool.or_true, Bool.false_or, Bool.true_or, Fin.isValue, Fin.val_zero, Fin.val_one, Fin.val_two, Fin.reduceFinMk, Option.toList_some, Option.toList_none, List.nil_append, List.cons_append, zwt_nil, zwt_i, zwt_l, zwt_r, zthr_nil, List.isEmpty_nil, zcE, ↓ar_k, lgc0, true_and, and_true, true_implies, implies_true, false_implies, forall_const, i_len, ob_0, ob_1, ↓bI_01, bI_0, not_true_eq_false, not_false_eq_true, Bool.not_eq_false, Bool.not_eq_true, ia_add, ia_sub, ia_mul, ia_neg, ↓ldI, ↓ldL, zaI_c, zaL_c, ↓zlen_I, ↓zlen_L, ↓stI, ↓stL, gD_sI, gN_sI, gI_sI, gJ_sI, gR_sI, gA_sI, gB_sI, gT_sI, gD_sJ, gN_sJ, gI_sJ, gJ_sJ, gR_sJ, gA_sJ, gB_sJ, gT_sJ, gD_sR, gN_sR, gI_sR, gJ_sR, gR_sR, gA_sR, gB_sR, gT_sR, gD_sA, gN_sA, gI_sA, gJ_sA, gR_sA, gA_sA, gB_sA, gT_sA, gD_sB, gN_sB, gI_sB, gJ_sB, gR_sB, gA_sB, gB_sB, gT_sB, zx_il0, zx_il1, zx_il2, zx_il3, zx_ll0, zx_ll1, zx_ll2, zx_ll3, zx_al0, zx_al1, zx_al2, zx_al3, e_has, e_bA, e_mn, e_mx, e_pcI, e_pcL, e_low, tc0, tc1, tc2, tc3, vc0_2, vc1_2, vc0_3, vc1_3, vc2_3, vc0_4, vc1_4, vc2_4, vc3_4, m_in, i10, i20, i00, i11, true_or, false_or, Bool.true_eq_false, eq_self, zml_285, zg285_0, zb285_0, zg285_18, zb285_18, zg285_19, zb285_19, zg285_28, zb285_28, zg285_38, zb285_38, zg285_73, zb285_73, zg285_75, zb285_75, zb285_78, zg285_143, zb285_143, zg285_163, zb285_163, zg285_164, zb285_164, zg285_169, zb285_169, zg285_175, zb285_175, zmc_234, zms_234, zow_234, zhd_234, zmc_207, zms_207, zow_207, zhd_207, zmc_212, zms_212, zow_212, zhd_212, zmc_285, zms_285, zow_285, zhd_285, zmc_221, zms_221, zow_221, zhd_221, ↓gf_11_10, ↓gf_11_28, ↓gf_11_54, ↓gf_11_55, ↓gf_11_56, ↓gv_11, ↓pp_11_0, ↓pp_11_54, ↓pp_11_55, ↓pq_11_0, ↓pq_11_54, ↓pq_11_55, ↓pw_11_0, ↓pw_11_54, ↓pw_11_55, show (Int8.ofInt 100).toInt32 = Int32.ofInt 100 from rfl, show ztg 11 7 = 18 from rfl, show ztg 137 6 = 143 from rfl, show ztg 140 29 = 169 from rfl, show ztg 145 18 = 163 from rfl, show ztg 15 4 = 19 from rfl, show ztg 160 4 = 164 from rfl, show ztg 172 (-94) = 78 from rfl, show ztg 23 5 = 28 from rfl, show ztg 33 5 = 38 from rfl, show ztg 62 11 = 73 from rfl, show ztg 66 7 = 73 from rfl, show ztg 70 5 = 75 from rfl, show ztg 93 82 = 175 from rfl, show ztg 99 76 = 175 from rfl, LM_d hLt, LM_r10 hLt, LM_k10 hLt, LM_n10 hLt, MT_1 hTt, eN, show oI (some c) = (c : Int) from rfl]
        try simp (disch := omega) only [ii_lt, ii_le, ii_eq, ii_eq0, ii_lt0, ii_0lt, ii_le0, ii_0le, i_inT, i_natN, i_nat, ia_div, ia_rem, hs_ofI, i_1shl, i_or, i_bit, true_and, and_true, not_true_eq_false, not_false_eq_true, true_implies, false_implies, implies_true, Int.reduceLT, Int.reduceLE, Int.reduceEq, Int.reduceNeg, Int.toNat_natCast, Int.reduceToNat, Nat.reduceLeDiff, Nat.reduceAdd, tn_2, tn_2p, tn_48, tn_48r, tn_3, tn_3p, tn_3q, tn_p1, tn_d2, tn_12, ia_add, ia_sub, ia_mul]
        exact ⟨fun _ => fin, fun _ => ⟨fun _ => fin, fun z => by omega⟩⟩
    have loop : ∀ p : Nat, p ≤ N → ∀ τ, SX σ τ (xH s w) → (cp (fun q => E (cde (nS (xT s)) q)) p : Int) ≤ v → zfp zP (zcall zP 285) 285 Q 78 [(0, .ref 88), (3, .int (Int32.ofInt x)), (4, .int (Int32.ofInt (v - (cp (fun q => E (cde (nS (xT s)) q)) p : Int)))), (5, .int (Int32.ofInt (-1))), (6, .int (Int32.ofInt p))] [] (hOf τ) 0 0 := by
      refine bk _ ?_
      intro p hp ih τ sx hcv
      have cl := cp_le (p := fun q => E (cde (nS (xT s)) q)) p
      by_cases cN : p < N
      rotate_left
      · have e : p = N := by omega
        refine out τ sx none _ p hp (fun _ => e) (fun c q => by cases q) ?_
        rw [lw_none]
        intro c ⟨c1, c3, c4⟩
        by_cases q : ∃ a b, a < 2 * nS (xT s) ∧ b < 2 * nS (xT s) ∧ pr a b = c
        · obtain ⟨a, b, ha, hb, hab⟩ := q
          have n0 : 0 < nS (xT s) := by omega
          have lt : a / 2 * nS (xT s) + b / 2 < N := by
            have : (a / 2 + 1) * nS (xT s) ≤ nS (xT s) * nS (xT s) := Nat.mul_le_mul_right _ (by omega)
            rw [Nat.add_mul, Nat.one_mul] at this
            omega
          have ec : cde (nS (xT s)) (a / 2 * nS (xT s) + b / 2) = c := by
            unfold cde
            rw [Nat.mul_comm (a / 2), Nat.mul_add_div n0, Nat.mul_add_mod, Nat.div_eq_of_lt (show b / 2 < nS (xT s) from by omega), Nat.mod_eq_of_lt (show b / 2 < nS (xT s) from by omega), Nat.add_zero]
            exact hab
          have k := cps _ lt
          rw [ec] at k
          have k2 : cp (fun q => E (cde (nS (xT s)) q)) (a / 2 * nS (xT s) + b / 2 + 1) = cp (fun q => E (cde (nS (xT s)) q)) (a / 2 * nS (xT s) + b / 2) + 1 := cp_t (show E (cde (nS (xT s)) (a / 2 * nS (xT s) + b / 2)) = true from by rw [ec]; exact c3)
          have k3 := mono (a / 2 * nS (xT s) + b / 2 + 1) p (by omega)
          omega
        · rw [sEn c (fun a b ha hb z => q ⟨a, b, ha, hb, z⟩)] at c3
          cases c3
      obtain ⟨hLt, hTt, hUt, hgt⟩ := facts sx
      have n0 : 0 < nS (xT s) := by
        apply Classical.byContradiction
        intro z
        rw [show nS (xT s) = 0 from by omega] at hN
        omega
      have cf : p / nS (xT s) < nS (xT s) := Nat.div_lt_of_lt_mul (by rw [← hN]; exact cN)
      have ct : p % nS (xT s) < nS (xT s) := Nat.mod_lt _ n0
      have dvN : Int32.ofInt (p : Int) / Int32.ofInt (nS (xT s) : Int) = Int32.ofInt ((p / nS (xT s) : Nat) : Int) := by
        rw [ia_div (by omega) (by omega)]
        rfl
      have rmN : (p : Int) - ((p / nS (xT s) : Nat) : Int) * (nS (xT s) : Int) = ((p % nS (xT s) : Nat) : Int) := by
        have e := Nat.div_add_mod p (nS (xT s))
        have e2 : ((nS (xT s) * (p / nS (xT s)) : Nat) : Int) = ((p / nS (xT s) : Nat) : Int) * (nS (xT s) : Int) := by rw [Nat.mul_comm]; rfl
        omega
      have nz : ¬ Int32.ofInt (nS (xT s) : Int) = 0 := by rw [ii_eq0 (by omega)]; omega
      have ecd : cde (nS (xT s)) p = p / nS (xT s) * 100 + p % nS (xT s) := rfl
      have step := ih cN
      rw [show cp (fun q => E (cde (nS (xT s)) q)) (p + 1) = cp (fun q => E (cde (nS (xT s)) q)) p + (E (cde (nS (xT s)) p)).toNat from rfl] at step
      have cpp := cps p cN
      generalize hbs : p / nS (xT s) = bs at *
      generalize hbt : p % nS (xT s) = bt at *
      generalize hcd : cde (nS (xT s)) p = c at *
      have fg : FG (sI (sI τ 88 54 (Int32.ofInt ((bs : Nat) : Int))) 88 55 (Int32.ofInt ((bt : Nat) : Int))) (xT s) (xH s w) (xU s) (xm s) (c : Int) := by
        refine ⟨MT_sI hwf (MT_sI hwf hTt), hwf, hgt, sx.2.1, MU_I (MU_I hUt (by omega)) (by omega), (MI_v h).2.2.2.2.2.2.1, hm12, fun a b ha hb => ?_⟩
        rw [gI_sI, if_neg (by omega), gI_sI, if_pos (by omega), gI_sI, if_pos (by omega), ii_eq (by omega) (by omega), ii_eq (by omega) (by omega)]
        unfold pr
        omega
      rw [zg285_78]
      simp -implicitDefEqProofs only [zx_iconst, zx_bipush, zx_sipush, zx_lconst, zx_ldc, zx_ldcS, zx_ldc_w, zx_ldc2_w, zx_iload, zx_lload, zx_aload, zx_istore_n, zx_istore, zx_lstore_n, zx_lstore, zx_astore_n, zx_astore, zx_iinc, zx_iadd, zx_isub, zx_imul, zx_iand, zx_ior, zx_ixor, zx_ishl, zx_ishr, zx_iushr, zx_idiv, zx_irem, zx_ineg, zx_ladd, zx_lsub, zx_land, zx_lor, zx_lxor, zx_lneg, zx_lshl, zx_lushr, zx_i2l, zx_l2i, zx_lcmp, zx_dup, zx_dup2, zx_pop, zx_goto, zx_if_eq, zx_if_ne, zx_if_lt, zx_if_ge, zx_if_gt, zx_if_le, zx_icmp_eq, zx_icmp_ne, zx_icmp_lt, zx_icmp_ge, zx_icmp_gt, zx_icmp_le, zx_getfield, zx_putfield, zx_iaload, zx_laload, zx_aaload, zx_iastore, zx_lastore, zx_arraylength, zx_ireturn, zx_lreturn, zx_areturn, zx_return, zx_athrow, zx_static0, zx_static1, zx_virt1, zx_static2, zx_virt2, zx_static3, zx_virt3, zx_static4, zx_virt4, zx_static5, zx_virt5, zx_static6, zx_virt6, zx_static7, zx_virt7, zx_cpI, zx_cpL, ↓cpI, ↓cpL, zx_slen, zx_schr, zx_tsw, zx_spec3, new_X, zx_new1, zrun_nil, zrun_cons, ↓zgi_h, ↓zgi_n, ↓zgl_h, ↓zgl_n, ↓zgr_h, ↓zgr_n, zset1, zset2, zins_nil, zins_c, f3, cat_i, cat_l, cat_r, List.filter_cons, List.filter_nil, Bool.false_eq_true, l_of0, lv_args, Nat.reduceBEq, Nat.reduceAdd, Nat.reduceLeDiff, Nat.reduceLT, Bool.not_true, Bool.not_false, Bool.and_true, Bool.true_and, Bool.and_false, Bool.false_and, Nat.reduceEqDiff, reduceIte, List.contains_cons, List.contains_nil, Bool.or_false, Bool.or_true, Bool.false_or, Bool.true_or, Fin.isValue, Fin.val_zero, Fin.val_one, Fin.val_two, Fin.reduceFinMk, Option.toList_some, Option.toList_none, List.nil_append, List.cons_append, zwt_nil, zwt_i, zwt_l, zwt_r, zthr_nil, List.isEmpty_nil, zcE, ↓ar_k, lgc0, true_and, and_true, true_implies, implies_true, false_implies, forall_const, i_len, ob_0, ob_1, ↓bI_01, bI_0, not_true_eq_false, not_false_eq_true, Bool.not_eq_false, Bool.not_eq_true, ia_add, ia_sub, ia_mul, ia_neg, ↓ldI, ↓ldL, zaI_c, zaL_c, ↓zlen_I, ↓zlen_L, ↓stI, ↓stL, gD_sI, gN_sI, gI_sI, gJ_sI, gR_sI, gA_sI, gB_sI, gT_sI, gD_sJ, gN_sJ, gI_sJ, gJ_sJ, gR_sJ, gA_sJ, gB_sJ, gT_sJ, gD_sR, gN_sR, gI_sR, gJ_sR, gR_sR, gA_sR, gB_sR, gT_sR, gD_sA, gN_sA, gI_sA, gJ_sA, gR_sA, gA_sA, gB_sA, gT_sA, gD_sB, gN_sB, gI_sB, gJ_sB, gR_sB, gA_sB, gB_sB, gT_sB, zx_il0, zx_il1, zx_il2, zx_il3, zx_ll0, zx_ll1, zx_ll2, zx_ll3, zx_al0, zx_al1, zx_al2, zx_al3, e_has, e_bA, e_mn, e_mx, e_pcI, e_pcL, e_low, tc0, tc1, tc2, tc3, vc0_2, vc1_2, vc0_3, vc1_3, vc2_3, vc0_4, vc1_4, vc2_4, vc3_4, m_in, i10, i20, i00, i11, true_or, false_or, Bool.true_eq_false, eq_self, zml_285, zg285_0, zb285_0, zg285_18, zb285_18, zg285_19, zb285_19, zg285_28, zb285_28, zg285_38, zb285_38, zg285_73, zb285_73, zg285_75, zb285_75, zb285_78, zg285_143, zb285_143, zg285_163, zb285_163, zg285_164, zb285_164, zg285_169, zb285_169, zg285_175, zb285_175, zmc_234, zms_234, zow_234, zhd_234, zmc_207, zms_207, zow_207, zhd_207, zmc_212, zms_212, zow_212, zhd_212, zmc_285, zms_285, zow_285, zhd_285, zmc_221, zms_221, zow_221, zhd_221, ↓gf_11_10, ↓gf_11_28, ↓gf_11_54, ↓gf_11_55, ↓gf_11_56, ↓gv_11, ↓pp_11_0, ↓pp_11_54, ↓pp_11_55, ↓pq_11_0, ↓pq_11_54, ↓pq_11_55, ↓pw_11_0, ↓pw_11_54, ↓pw_11_55, show (Int8.ofInt 100).toInt32 = Int32.ofInt 100 from rfl, show ztg 11 7 = 18 from rfl, show ztg 137 6 = 143 from rfl, show ztg 140 29 = 169 from rfl, show ztg 145 18 = 163 from rfl, show ztg 15 4 = 19 from rfl, show ztg 160 4 = 164 from rfl, show ztg 172 (-94) = 78 from rfl, show ztg 23 5 = 28 from rfl, show ztg 33 5 = 38 from rfl, show ztg 62 11 = 73 from rfl, show ztg 66 7 = 73 from rfl, show ztg 70 5 = 75 from rfl, show ztg 93 82 = 175 from rfl, show ztg 99 76 = 175 from rfl, LM_d hLt, LM_r10 hLt, LM_k10 hLt, LM_n10 hLt, MT_1 hTt, eN, dvN, rmN, nz, show (Int32.ofInt (-1) = Int32.ofInt (-1)) = True from eq_true rfl]
      try simp (disch := omega) only [ii_lt, ii_le, ii_eq, ii_eq0, ii_lt0, ii_0lt, ii_le0, ii_0le, i_inT, i_natN, i_nat, ia_div, ia_rem, hs_ofI, i_1shl, i_or, i_bit, true_and, and_true, not_true_eq_false, not_false_eq_true, true_implies, false_implies, implies_true, Int.reduceLT, Int.reduceLE, Int.reduceEq, Int.reduceNeg, Int.toNat_natCast, Int.reduceToNat, Nat.reduceLeDiff, Nat.reduceAdd, tn_2, tn_2p, tn_48, tn_48r, tn_3, tn_3p, tn_3q, tn_p1, tn_d2, tn_12, ia_add, ia_sub, ia_mul]
      refine ⟨fun z => by omega, fun _ => ?_⟩
      refine m_findBreaks fg (by omega) (fun τ3 fb e56 _ => ?_)
      have sx3 : SX σ τ3 (xH s w) := SX_FB sx fb
      obtain ⟨hL3, hT3, hU3, hg3⟩ := facts sx3
      have b54 : gI τ3 88 54 = Int32.ofInt ((bs : Nat) : Int) := by rw [fb.2.2.2.2 54 (by omega), gI_sI, if_neg (by omega), gI_sI, if_pos (by omega)]
      have b55 : gI τ3 88 55 = Int32.ofInt ((bt : Nat) : Int) := by rw [fb.2.2.2.2 55 (by omega), gI_sI, if_pos (by omega)]
      rw [hR] at e56
      have zl2 := zl (c : Int)
      have Ec : E c = cB ((sT (xT s) R (xU s) (c : Int) (xm s)).1 ≠ some x) := by rw [← hE]; rfl
      generalize (sT (xT s) R (xU s) (c : Int) (xm s)).1 = o at *
      have fo : fr 1000000000 o ≤ 1000000000 ∧ (fr 1000000000 o = x ↔ o = some x) := by
        cases o with
        | none => exact ⟨Nat.le_refl _, ⟨fun z => by have z : 1000000000 = x := z; omega, fun z => by cases z⟩⟩
        | some y =>
          have := zl2 y rfl
          exact ⟨by show y ≤ _; omega, ⟨fun z => by have z : y = x := z; rw [z], fun z => Option.some.inj z⟩⟩
      simp -implicitDefEqProofs only [zx_iconst, zx_bipush, zx_sipush, zx_lconst, zx_ldc, zx_ldcS, zx_ldc_w, zx_ldc2_w, zx_iload, zx_lload, zx_aload, zx_istore_n, zx_istore, zx_lstore_n, zx_lstore, zx_astore_n, zx_astore, zx_iinc, zx_iadd, zx_isub, zx_imul, zx_iand, zx_ior, zx_ixor, zx_ishl, zx_ishr, zx_iushr, zx_idiv, zx_irem, zx_ineg, zx_ladd, zx_lsub, zx_land, zx_lor, zx_lxor, zx_lneg, zx_lshl, zx_lushr, zx_i2l, zx_l2i, zx_lcmp, zx_dup, zx_dup2, zx_pop, zx_goto, zx_if_eq, zx_if_ne, zx_if_lt, zx_if_ge, zx_if_gt, zx_if_le, zx_icmp_eq, zx_icmp_ne, zx_icmp_lt, zx_icmp_ge, zx_icmp_gt, zx_icmp_le, zx_getfield, zx_putfield, zx_iaload, zx_laload, zx_aaload, zx_iastore, zx_lastore, zx_arraylength, zx_ireturn, zx_lreturn, zx_areturn, zx_return, zx_athrow, zx_static0, zx_static1, zx_virt1, zx_static2, zx_virt2, zx_static3, zx_virt3, zx_static4, zx_virt4, zx_static5, zx_virt5, zx_static6, zx_virt6, zx_static7, zx_virt7, zx_cpI, zx_cpL, ↓cpI, ↓cpL, zx_slen, zx_schr, zx_tsw, zx_spec3, new_X, zx_new1, zrun_nil, zrun_cons, ↓zgi_h, ↓zgi_n, ↓zgl_h, ↓zgl_n, ↓zgr_h, ↓zgr_n, zset1, zset2, zins_nil, zins_c, f3, cat_i, cat_l, cat_r, List.filter_cons, List.filter_nil, Bool.false_eq_true, l_of0, lv_args, Nat.reduceBEq, Nat.reduceAdd, Nat.reduceLeDiff, Nat.reduceLT, Bool.not_true, Bool.not_false, Bool.and_true, Bool.true_and, Bool.and_false, Bool.false_and, Nat.reduceEqDiff, reduceIte, List.contains_cons, List.contains_nil, Bool.or_false, Bool.or_true, Bool.false_or, Bool.true_or, Fin.isValue, Fin.val_zero, Fin.val_one, Fin.val_two, Fin.reduceFinMk, Option.toList_some, Option.toList_none, List.nil_append, List.cons_append, zwt_nil, zwt_i, zwt_l, zwt_r, zthr_nil, List.isEmpty_nil, zcE, ↓ar_k, lgc0, true_and, and_true, true_implies, implies_true, false_implies, forall_const, i_len, ob_0, ob_1, ↓bI_01, bI_0, not_true_eq_false, not_false_eq_true, Bool.not_eq_false, Bool.not_eq_true, ia_add, ia_sub, ia_mul, ia_neg, ↓ldI, ↓ldL, zaI_c, zaL_c, ↓zlen_I, ↓zlen_L, ↓stI, ↓stL, gD_sI, gN_sI, gI_sI, gJ_sI, gR_sI, gA_sI, gB_sI, gT_sI, gD_sJ, gN_sJ, gI_sJ, gJ_sJ, gR_sJ, gA_sJ, gB_sJ, gT_sJ, gD_sR, gN_sR, gI_sR, gJ_sR, gR_sR, gA_sR, gB_sR, gT_sR, gD_sA, gN_sA, gI_sA, gJ_sA, gR_sA, gA_sA, gB_sA, gT_sA, gD_sB, gN_sB, gI_sB, gJ_sB, gR_sB, gA_sB, gB_sB, gT_sB, zx_il0, zx_il1, zx_il2, zx_il3, zx_ll0, zx_ll1, zx_ll2, zx_ll3, zx_al0, zx_al1, zx_al2, zx_al3, e_has, e_bA, e_mn, e_mx, e_pcI, e_pcL, e_low, tc0, tc1, tc2, tc3, vc0_2, vc1_2, vc0_3, vc1_3, vc2_3, vc0_4, vc1_4, vc2_4, vc3_4, m_in, i10, i20, i00, i11, true_or, false_or, Bool.true_eq_false, eq_self, zml_285, zg285_0, zb285_0, zg285_18, zb285_18, zg285_19, zb285_19, zg285_28, zb285_28, zg285_38, zb285_38, zg285_73, zb285_73, zg285_75, zb285_75, zb285_78, zg285_143, zb285_143, zg285_163, zb285_163, zg285_164, zb285_164, zg285_169, zb285_169, zg285_175, zb285_175, zmc_234, zms_234, zow_234, zhd_234, zmc_207, zms_207, zow_207, zhd_207, zmc_212, zms_212, zow_212, zhd_212, zmc_285, zms_285, zow_285, zhd_285, zmc_221, zms_221, zow_221, zhd_221, ↓gf_11_10, ↓gf_11_28, ↓gf_11_54, ↓gf_11_55, ↓gf_11_56, ↓gv_11, ↓pp_11_0, ↓pp_11_54, ↓pp_11_55, ↓pq_11_0, ↓pq_11_54, ↓pq_11_55, ↓pw_11_0, ↓pw_11_54, ↓pw_11_55, show (Int8.ofInt 100).toInt32 = Int32.ofInt 100 from rfl, show ztg 11 7 = 18 from rfl, show ztg 137 6 = 143 from rfl, show ztg 140 29 = 169 from rfl, show ztg 145 18 = 163 from rfl, show ztg 15 4 = 19 from rfl, show ztg 160 4 = 164 from rfl, show ztg 172 (-94) = 78 from rfl, show ztg 23 5 = 28 from rfl, show ztg 33 5 = 38 from rfl, show ztg 62 11 = 73 from rfl, show ztg 66 7 = 73 from rfl, show ztg 70 5 = 75 from rfl, show ztg 93 82 = 175 from rfl, show ztg 99 76 = 175 from rfl, LM_d hL3, LM_r10 hL3, LM_k10 hL3, LM_n10 hL3, e56, b54, b55]
      try simp (disch := omega) only [ii_lt, ii_le, ii_eq, ii_eq0, ii_lt0, ii_0lt, ii_le0, ii_0le, i_inT, i_natN, i_nat, ia_div, ia_rem, hs_ofI, i_1shl, i_or, i_bit, true_and, and_true, not_true_eq_false, not_false_eq_true, true_implies, false_implies, implies_true, Int.reduceLT, Int.reduceLE, Int.reduceEq, Int.reduceNeg, Int.toNat_natCast, Int.reduceToNat, Nat.reduceLeDiff, Nat.reduceAdd, tn_2, tn_2p, tn_48, tn_48r, tn_3, tn_3p, tn_3q, tn_p1, tn_d2, tn_12, ia_add, ia_sub, ia_mul]
      refine ⟨fun z3 => ?_, fun z3 => ?_⟩
      · have et : E c = true := by
          rw [Ec, cB_iff]
          intro z
          exact z3 (by have := fo.2.2 z; omega)
        rw [et] at step
        refine ⟨fun z4 => ?_, fun z4 => ?_⟩
        · have k0 := step τ3 sx3 (by show ((cp (fun q => E (cde (nS (xT s)) q)) p + 1 : Nat) : Int) ≤ v; omega)
          rw [show v - ((cp (fun q => E (cde (nS (xT s)) q)) p + true.toNat : Nat) : Int) = v - (cp (fun q => E (cde (nS (xT s)) q)) p : Int) + -1 from by show v - ((cp (fun q => E (cde (nS (xT s)) q)) p + 1 : Nat) : Int) = _; omega] at k0
          first | exact k0 | exact zjf rfl (k0)
        · have hlw : lw (fun c => c < 2400 ∧ E c = true ∧ (cp E c : Int) = v) = some c := by
            rw [lw_some]
            refine ⟨⟨by omega, et, by omega⟩, fun c5 h5 ⟨_, q2, q3⟩ => ?_⟩
            have k5 : cp E (c5 + 1) = cp E c5 + 1 := cp_t q2
            have k6 : cp E (c5 + 1) ≤ cp E c := cp_le2 (by omega)
            omega
          have k0 := out τ3 sx3 (some c) (v - (cp (fun q => E (cde (nS (xT s)) q)) p : Int) + -1) (p + 1) (by omega) (fun z => by cases z) (fun c5 z => by cases z; omega) hlw
          rw [show oI (some c) = (100 : Int) * (bs : Int) + (bt : Int) from by show (c : Int) = _; omega] at k0
          first | exact k0 | exact zjf rfl (k0)
      · have et : E c = false := by
          rw [Ec, cB_f]
          intro z
          exact z (fo.2.1 (by omega))
        rw [et] at step
        have k0 := step τ3 sx3 (by show ((cp (fun q => E (cde (nS (xT s)) q)) p + 0 : Nat) : Int) ≤ v; omega)
        first | exact k0 | exact zjf rfl (k0)
    have sx2 : SX σ τ2 (xH s w) := ⟨by
      have e54 : gI τ2 88 54 = Int32.ofInt (-1) := MI_b (MI_fK k2 h)
      have e1 : sI τ2 88 54 (Int32.ofInt (-1)) = τ2 := by
        refine zS_ext rfl rfl ?_ rfl rfl rfl rfl rfl
        funext b j
        show (if b = 88 ∧ j = 54 then _ else gI τ2 b j) = _
        by_cases q : b = 88 ∧ j = 54
        · rw [if_pos q, q.1, q.2, e54]
        · rw [if_neg q]
      rw [e1]
      exact k2, hr3, e02⟩
    have k0 := loop 0 (by omega) τ2 sx2 (by show ((0 : Nat) : Int) ≤ v; omega)
    rw [show v - (cp (fun q => E (cde (nS (xT s)) q)) 0 : Int) = v from by show v - ((0 : Nat) : Int) = v; omega] at k0
    first | exact k0 | exact zjf rfl (k0)
