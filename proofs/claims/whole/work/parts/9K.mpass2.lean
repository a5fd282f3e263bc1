/-! A CORNER LETS ONE PASS -/
theorem fst_at {T : Tw} {R : Nat → Nat → Bool} {z : Nat → Rd} {c : Nat} : ∀ n q, fst T R z c n = some q → att T R z q = true ∧ cor T R z q = c
  | 0, q, h => by cases h
  | n + 1, q, h => by
    have ih := fst_at (T := T) (R := R) (z := z) (c := c) n
    have e : fst T R z c (n + 1) = if att T R z n = true ∧ cor T R z n = c then (match fst T R z c n with
      | none => some n
      | some q => if rC (z n) < rC (z q) then some n else some q) else fst T R z c n := rfl
    rw [e] at h
    split at h
    · rename_i ha
      split at h
      · cases h
        exact ha
      · rename_i q2 e2
        split at h
        · cases h
          exact ha
        · cases h
          exact ih _ e2
    · exact ih q h
theorem fst_no {T : Tw} {R : Nat → Nat → Bool} {z : Nat → Rd} {c : Nat} : ∀ n, fst T R z c n = none → ∀ r, r < n → ¬ (att T R z r = true ∧ cor T R z r = c)
  | 0, _, r, hr => by omega
  | n + 1, h, r, hr => by
    have ih := fst_no (T := T) (R := R) (z := z) (c := c) n
    have e : fst T R z c (n + 1) = if att T R z n = true ∧ cor T R z n = c then (match fst T R z c n with
      | none => some n
      | some q => if rC (z n) < rC (z q) then some n else some q) else fst T R z c n := rfl
    rw [e] at h
    split at h
    · split at h
      · cases h
      · split at h <;> cases h
    · rename_i ha
      by_cases c1 : r = n
      · rw [c1]
        exact ha
      · exact ih h r (by omega)
noncomputable def hm2 (T : Tw) (w : Nat → Rd) : Nat := cp (fun r => decide (rH (w r) ≠ -1)) (nR T)
theorem m_passes {σ τ : zS} {s : Ab} {R : Nat → Nat → Bool} {now c : Nat} {z : Nat → Rd} {Q : zQ} (h : MI σ s) (hRA : ∀ a b, R a b = true → isA (xT s) a = true ∧ isA (xT s) b = true) (hx : RX σ τ (xT s) R now) (hn : now < 999) (hb : rb (xT s) R now z) (hj : jn (xT s) R (now + 1) z) (hc : c < nC (xT s)) (hm : ∀ r, r < nR (xT s) → MR τ (zc (xT s) R now z c r) r) (hQ : ∀ (τ2 : zS) (d : Nat), RX σ τ2 (xT s) R now → (∀ r, r < nR (xT s) → MR τ2 (zc (xT s) R now z (c + 1) r) r) → hm2 (xT s) (zc (xT s) R now z (c + 1)) = hm2 (xT s) (zc (xT s) R now z c) + d → d ≤ 1 → Q (.inl (some (.int (Int32.ofInt d)))) (hOf τ2)) : zW zP 262 [.ref 88, .int (Int32.ofInt c)] (hOf τ) Q := by
  have hwf := MI_w h
  have h12 := hwf.2.2.1
  have h24 := hwf.2.1
  have h16 := hwf.1
  have hM := MI_fK hx.1.1 h
  have hLt := MI_L hM
  have hTt := MI_T hM
  generalize hT : xT s = T at *
  have hjz := zc_j (now := now) (c := c) hj
  have hbz := zc_b (c := c) hwf hRA hb
  have th : ∀ r, r < nR T → ∀ Q : zQ, zW zP 261 [.ref 88, .int (Int32.ofInt r), .int (Int32.ofInt c)] (hOf τ) Q = Q (.inl (some (.int (bI (att T R z r && decide (cor T R z r = c)))))) (hOf τ) := by
    intro r hr Q
    rw [← zc_at (now := now) hwf hRA (hj r hr).2.2.2.1]
    subst hT
    exact m_there h hRA hx (by omega) (by omega) hbz hjz hr (hm r hr)
  have same : ∀ r, ¬ (att T R z r = true ∧ cor T R z r = c) → zc T R now z (c + 1) r = zc T R now z c r := by
    intro r q
    unfold zc
    by_cases q1 : att T R z r = true ∧ cor T R z r < c
    · rw [if_pos q1, if_pos ⟨q1.1, by omega⟩]
    · rw [if_neg q1, if_neg (fun q2 => by
        by_cases q3 : cor T R z r = c
        · exact q ⟨q2.1, q3⟩
        · exact q1 ⟨q2.1, by omega⟩)]
  have own : ∀ r, att T R z r = true → cor T R z r = c → zc T R now z c r = z r ∧ zc T R now z (c + 1) r = lgo T R now z r := by
    intro r q1 q2
    refine ⟨if_neg (fun q => by omega), if_pos ⟨q1, by omega⟩⟩
  rw [zWE]
  simp -implicitDefEqProofs only [zx_iconst, zx_bipush, zx_sipush, zx_lconst, zx_ldc, zx_ldcS, zx_ldc_w, zx_ldc2_w, zx_iload, zx_lload, zx_aload, zx_istore_n, zx_istore, zx_lstore_n, zx_lstore, zx_astore_n, zx_astore, zx_iinc, zx_iadd, zx_isub, zx_imul, zx_iand, zx_ior, zx_ixor, zx_ishl, zx_ishr, zx_iushr, zx_idiv, zx_irem, zx_ineg, zx_ladd, zx_lsub, zx_land, zx_lor, zx_lxor, zx_lneg, zx_lshl, zx_lushr, zx_i2l, zx_l2i, zx_lcmp, zx_dup, zx_dup2, zx_pop, zx_goto, zx_if_eq, zx_if_ne, zx_if_lt, zx_if_ge, zx_if_gt, zx_if_le, zx_icmp_eq, zx_icmp_ne, zx_icmp_lt, zx_icmp_ge, zx_icmp_gt, zx_icmp_le, zx_getfield, zx_putfield, zx_iaload, zx_laload, zx_aaload, zx_iastore, zx_lastore, zx_arraylength, zx_ireturn, zx_lreturn, zx_areturn, zx_return, zx_athrow, zx_static0, zx_static1, zx_virt1, zx_static2, zx_virt2, zx_static3, zx_virt3, zx_static4, zx_virt4, zx_static5, zx_virt5, zx_static6, zx_virt6, zx_static7, zx_virt7, zx_cpI, zx_cpL, ↓cpI, ↓cpL, zx_slen, zx_schr, zx_tsw, zx_spec3, new_X, zx_new1, zrun_nil, zrun_cons, ↓zgi_h, ↓zgi_n, ↓zgl_h, ↓zgl_n, ↓zgr_h, ↓zgr_n, zset1, zset2, zins_nil, zins_c, f3, cat_i, cat_l, cat_r, List.filter_cons, List.filter_nil, Bool.false_eq_true, l_of0, lv_args, Nat.reduceBEq, Nat.reduceAdd, Nat.reduceLeDiff, Nat.reduceLT, Bool.not_true, Bool.not_false, Bool.and_true, Bool.true_and, Bool.and_false, Bool.false_and, Nat.reduceEqDiff, reduceIte, List.contains_cons, List.contains_nil, Bool.or_false, Bool.or_true, Bool.false_or, Bool.true_or, Fin.isValue, Fin.val_zero, Fin.val_one, Fin.val_two, Fin.reduceFinMk, Option.toList_some, Option.toList_none, List.nil_append, List.cons_append, zwt_nil, zwt_i, zwt_l, zwt_r, zthr_nil, List.isEmpty_nil, zcE, ↓ar_k, lgc0, true_and, and_true, true_implies, implies_true, false_implies, forall_const, i_len, ob_0, ob_1, ↓bI_01, bI_0, not_true_eq_false, not_false_eq_true, Bool.not_eq_false, Bool.not_eq_true, ia_add, ia_sub, ia_mul, ia_neg, ↓ldI, ↓ldL, zaI_c, zaL_c, ↓zlen_I, ↓zlen_L, ↓stI, ↓stL, gD_sI, gN_sI, gI_sI, gJ_sI, gR_sI, gA_sI, gB_sI, gT_sI, gD_sJ, gN_sJ, gI_sJ, gJ_sJ, gR_sJ, gA_sJ, gB_sJ, gT_sJ, gD_sR, gN_sR, gI_sR, gJ_sR, gR_sR, gA_sR, gB_sR, gT_sR, gD_sA, gN_sA, gI_sA, gJ_sA, gR_sA, gA_sA, gB_sA, gT_sA, gD_sB, gN_sB, gI_sB, gJ_sB, gR_sB, gA_sB, gB_sB, gT_sB, zx_il0, zx_il1, zx_il2, zx_il3, zx_ll0, zx_ll1, zx_ll2, zx_ll3, zx_al0, zx_al1, zx_al2, zx_al3, e_has, e_bA, e_mn, e_mx, e_pcI, e_pcL, e_low, tc0, tc1, tc2, tc3, vc0_2, vc1_2, vc0_3, vc1_3, vc2_3, vc0_4, vc1_4, vc2_4, vc3_4, m_in, i10, i20, i00, i11, true_or, false_or, Bool.true_eq_false, eq_self, zml_262, zg262_0, zb262_0, zb262_4, zg262_43, zb262_43, zg262_45, zb262_45, zg262_51, zb262_51, zb262_53, zg262_87, zb262_87, zg262_93, zb262_93, zg262_100, zb262_100, zg262_129, zb262_129, zmc_225, zms_225, zow_225, zhd_225, zmc_261, zms_261, zow_261, zhd_261, zmc_262, zms_262, zow_262, zhd_262, ↓gf_11_10, ↓gf_11_36, ↓gf_11_37, ↓gf_11_38, ↓gf_11_39, ↓gf_11_40, ↓gf_11_41, ↓gf_11_42, ↓gf_11_43, ↓gv_11, show ztg 11 40 = 51 from rfl, show ztg 114 15 = 129 from rfl, show ztg 20 25 = 45 from rfl, show ztg 25 18 = 43 from rfl, show ztg 40 5 = 45 from rfl, show ztg 48 (-44) = 4 from rfl, show ztg 60 33 = 93 from rfl, show ztg 69 18 = 87 from rfl, show ztg 74 13 = 87 from rfl, show ztg 90 (-37) = 53 from rfl, show ztg 95 5 = 100 from rfl]
  -- behind the first two loops
  have waits : ∀ o : Option Nat, fst T R z c (nR T) = o → ∀ i : Nat, i ≤ nR T → ∀ τ2 : zS, RX σ τ2 T R now → (∀ r, r < nR T → MR τ2 (if r < i ∧ att T R z r = true ∧ cor T R z r = c ∧ o ≠ some r then (rO (z r), rG (z r), rC (z r), rH (z r), rW (z r) + 1) else zc T R now z c r) r) → zfp zP (zcall zP 262) 262 Q 53 [(0, .ref 88), (1, .int (Int32.ofInt c)), (2, .int (Int32.ofInt (oI o))), (3, .int (Int32.ofInt i))] [] (hOf τ2) 0 0 := by
    intro o ho
    refine bk _ ?_
    intro i hi ih τ2 hx2 hm2'
    have hM2 := MI_fK hx2.1.1 h
    have hL2 := MI_L hM2
    have hT2 : MT τ2 T := by rw [← hT]; exact MI_T hM2
    rw [zg262_53]
    by_cases ci : i < nR T
    · have mi := hm2' i ci
      rw [if_neg (fun q => by omega)] at mi
      have th2 : ∀ Q : zQ, zW zP 261 [.ref 88, .int (Int32.ofInt i), .int (Int32.ofInt c)] (hOf τ2) Q = Q (.inl (some (.int (bI (att T R z i && decide (cor T R z i = c)))))) (hOf τ2) := by
        intro Q
        rw [← zc_at (now := now) hwf hRA (hj i ci).2.2.2.1]
        subst hT
        exact m_there h hRA hx2 (by omega) (by omega) hbz hjz ci mi
      have hoi : -1 ≤ oI o ∧ oI o < 12 := by
        cases o with
        | none => exact ⟨by decide, by decide⟩
        | some q =>
          have := fst_lt _ q ho
          show (-1 : Int) ≤ (q : Int) ∧ (q : Int) < 12
          omega
      have skip : ¬ (att T R z i = true ∧ cor T R z i = c ∧ o ≠ some i) → zfp zP (zcall zP 262) 262 Q 53 [(0, .ref 88), (1, .int (Int32.ofInt c)), (2, .int (Int32.ofInt (oI o))), (3, .int (Int32.ofInt ((i + 1 : Nat) : Int)))] [] (hOf τ2) 0 0 := by
        intro q
        refine ih ci τ2 hx2 (fun r hr => ?_)
        have k := hm2' r hr
        by_cases e : r = i
        · subst e
          rw [if_neg (fun z => by omega)] at k
          rw [if_neg (fun z => q z.2)]
          exact k
        · by_cases e2 : r < i ∧ att T R z r = true ∧ cor T R z r = c ∧ o ≠ some r
          · rw [if_pos e2] at k
            rw [if_pos ⟨by omega, e2.2⟩]
            exact k
          · rw [if_neg e2] at k
            rw [if_neg (fun z => e2 ⟨by omega, z.2⟩)]
            exact k
      cases ea : (att T R z i && decide (cor T R z i = c)) with
      | false =>
        simp -implicitDefEqProofs only [zx_iconst, zx_bipush, zx_sipush, zx_lconst, zx_ldc, zx_ldcS, zx_ldc_w, zx_ldc2_w, zx_iload, zx_lload, zx_aload, zx_istore_n, zx_istore, zx_lstore_n, zx_lstore, zx_astore_n, zx_astore, zx_iinc, zx_iadd, zx_isub, zx_imul, zx_iand, zx_ior, zx_ixor, zx_ishl, zx_ishr, zx_iushr, zx_idiv, zx_irem, zx_ineg, zx_ladd, zx_lsub, zx_land, zx_lor, zx_lxor, zx_lneg, zx_lshl, zx_lushr, zx_i2l, zx_l2i, zx_lcmp, zx_dup, zx_dup2, zx_pop, zx_goto, zx_if_eq, zx_if_ne, zx_if_lt, zx_if_ge, zx_if_gt, zx_if_le, zx_icmp_eq, zx_icmp_ne, zx_icmp_lt, zx_icmp_ge, zx_icmp_gt, zx_icmp_le, zx_getfield, zx_putfield, zx_iaload, zx_laload, zx_aaload, zx_iastore, zx_lastore, zx_arraylength, zx_ireturn, zx_lreturn, zx_areturn, zx_return, zx_athrow, zx_static0, zx_static1, zx_virt1, zx_static2, zx_virt2, zx_static3, zx_virt3, zx_static4, zx_virt4, zx_static5, zx_virt5, zx_static6, zx_virt6, zx_static7, zx_virt7, zx_cpI, zx_cpL, ↓cpI, ↓cpL, zx_slen, zx_schr, zx_tsw, zx_spec3, new_X, zx_new1, zrun_nil, zrun_cons, ↓zgi_h, ↓zgi_n, ↓zgl_h, ↓zgl_n, ↓zgr_h, ↓zgr_n, zset1, zset2, zins_nil, zins_c, f3, cat_i, cat_l, cat_r, List.filter_cons, List.filter_nil, Bool.false_eq_true, l_of0, lv_args, Nat.reduceBEq, Nat.reduceAdd, Nat.reduceLeDiff, Nat.reduceLT, Bool.not_true, Bool.not_false, Bool.and_true, Bool.true_and, Bool.and_false, Bool.false_and, Nat.reduceEqDiff, reduceIte, List.contains_cons, List.contains_nil, Bool.or_false, Bool.or_true, Bool.false_or, Bool.true_or, Fin.isValue, Fin.val_zero, Fin.val_one, Fin.val_two, Fin.reduceFinMk, Option.toList_some, Option.toList_none, List.nil_append, List.cons_append, zwt_nil, zwt_i, zwt_l, zwt_r, zthr_nil, List.isEmpty_nil, zcE, ↓ar_k, lgc0, true_and, and_true, true_implies, implies_true, false_implies, forall_const, i_len, ob_0, ob_1, ↓bI_01, bI_0, not_true_eq_false, not_false_eq_true, Bool.not_eq_false, Bool.not_eq_true, ia_add, ia_sub, ia_mul, ia_neg, ↓ldI, ↓ldL, zaI_c, zaL_c, ↓zlen_I, ↓zlen_L, ↓stI, ↓stL, gD_sI, gN_sI, gI_sI, gJ_sI, gR_sI, gA_sI, gB_sI, gT_sI, gD_sJ, gN_sJ, gI_sJ, gJ_sJ, gR_sJ, gA_sJ, gB_sJ, gT_sJ, gD_sR, gN_sR, gI_sR, gJ_sR, gR_sR, gA_sR, gB_sR, gT_sR, gD_sA, gN_sA, gI_sA, gJ_sA, gR_sA, gA_sA, gB_sA, gT_sA, gD_sB, gN_sB, gI_sB, gJ_sB, gR_sB, gA_sB, gB_sB, gT_sB, zx_il0, zx_il1, zx_il2, zx_il3, zx_ll0, zx_ll1, zx_ll2, zx_ll3, zx_al0, zx_al1, zx_al2, zx_al3, e_has, e_bA, e_mn, e_mx, e_pcI, e_pcL, e_low, tc0, tc1, tc2, tc3, vc0_2, vc1_2, vc0_3, vc1_3, vc2_3, vc0_4, vc1_4, vc2_4, vc3_4, m_in, i10, i20, i00, i11, true_or, false_or, Bool.true_eq_false, eq_self, zml_262, zg262_0, zb262_0, zb262_4, zg262_43, zb262_43, zg262_45, zb262_45, zg262_51, zb262_51, zb262_53, zg262_87, zb262_87, zg262_93, zb262_93, zg262_100, zb262_100, zg262_129, zb262_129, zmc_225, zms_225, zow_225, zhd_225, zmc_261, zms_261, zow_261, zhd_261, zmc_262, zms_262, zow_262, zhd_262, ↓gf_11_10, ↓gf_11_36, ↓gf_11_37, ↓gf_11_38, ↓gf_11_39, ↓gf_11_40, ↓gf_11_41, ↓gf_11_42, ↓gf_11_43, ↓gv_11, show ztg 11 40 = 51 from rfl, show ztg 114 15 = 129 from rfl, show ztg 20 25 = 45 from rfl, show ztg 25 18 = 43 from rfl, show ztg 40 5 = 45 from rfl, show ztg 48 (-44) = 4 from rfl, show ztg 60 33 = 93 from rfl, show ztg 69 18 = 87 from rfl, show ztg 74 13 = 87 from rfl, show ztg 90 (-37) = 53 from rfl, show ztg 95 5 = 100 from rfl, LM_d hL2, LM_r10 hL2, LM_k10 hL2, LM_n10 hL2, LM_r40 hL2, LM_k40 hL2, LM_n40 hL2, LM_r42 hL2, LM_k42 hL2, LM_n42 hL2, LM_r38 hL2, LM_k38 hL2, LM_n38 hL2, LM_r37 hL2, LM_k37 hL2, LM_n37 hL2, LM_r41 hL2, LM_k41 hL2, LM_n41 hL2, LM_r39 hL2, LM_k39 hL2, LM_n39 hL2, LM_r36 hL2, LM_k36 hL2, LM_n36 hL2, MT_3 hT2, th2, ea]
        try simp (disch := omega) only [ii_lt, ii_le, ii_eq, ii_eq0, ii_lt0, ii_0lt, ii_le0, ii_0le, i_inT, i_natN, i_nat, ia_div, ia_rem, hs_ofI, i_1shl, i_or, i_bit, true_and, and_true, not_true_eq_false, not_false_eq_true, true_implies, false_implies, implies_true, Int.reduceLT, Int.reduceLE, Int.reduceEq, Int.reduceNeg, Int.toNat_natCast, Int.reduceToNat, Nat.reduceLeDiff, Nat.reduceAdd, tn_2, tn_2p, tn_48, tn_48r, tn_3, tn_3p, tn_3q, tn_p1, tn_d2, tn_12, ia_add, ia_sub, ia_mul]
        refine ⟨fun z => by omega, fun _ => skip (fun q => ?_)⟩
        rw [q.1, decide_eq_true q.2.1] at ea
        cases ea
      | true =>
        rw [Bool.and_eq_true, decide_eq_true_eq] at ea
        have ow := own i ea.1 ea.2
        rw [ow.1] at mi
        have bi := hb i ci
        simp -implicitDefEqProofs only [zx_iconst, zx_bipush, zx_sipush, zx_lconst, zx_ldc, zx_ldcS, zx_ldc_w, zx_ldc2_w, zx_iload, zx_lload, zx_aload, zx_istore_n, zx_istore, zx_lstore_n, zx_lstore, zx_astore_n, zx_astore, zx_iinc, zx_iadd, zx_isub, zx_imul, zx_iand, zx_ior, zx_ixor, zx_ishl, zx_ishr, zx_iushr, zx_idiv, zx_irem, zx_ineg, zx_ladd, zx_lsub, zx_land, zx_lor, zx_lxor, zx_lneg, zx_lshl, zx_lushr, zx_i2l, zx_l2i, zx_lcmp, zx_dup, zx_dup2, zx_pop, zx_goto, zx_if_eq, zx_if_ne, zx_if_lt, zx_if_ge, zx_if_gt, zx_if_le, zx_icmp_eq, zx_icmp_ne, zx_icmp_lt, zx_icmp_ge, zx_icmp_gt, zx_icmp_le, zx_getfield, zx_putfield, zx_iaload, zx_laload, zx_aaload, zx_iastore, zx_lastore, zx_arraylength, zx_ireturn, zx_lreturn, zx_areturn, zx_return, zx_athrow, zx_static0, zx_static1, zx_virt1, zx_static2, zx_virt2, zx_static3, zx_virt3, zx_static4, zx_virt4, zx_static5, zx_virt5, zx_static6, zx_virt6, zx_static7, zx_virt7, zx_cpI, zx_cpL, ↓cpI, ↓cpL, zx_slen, zx_schr, zx_tsw, zx_spec3, new_X, zx_new1, zrun_nil, zrun_cons, ↓zgi_h, ↓zgi_n, ↓zgl_h, ↓zgl_n, ↓zgr_h, ↓zgr_n, zset1, zset2, zins_nil, zins_c, f3, cat_i, cat_l, cat_r, List.filter_cons, List.filter_nil, Bool.false_eq_true, l_of0, lv_args, Nat.reduceBEq, Nat.reduceAdd, Nat.reduceLeDiff, Nat.reduceLT, Bool.not_true, Bool.not_false, Bool.and_true, Bool.true_and, Bool.and_false, Bool.false_and, Nat.reduceEqDiff, reduceIte, List.contains_cons, List.contains_nil, Bool.or_false, Bool.or_true, Bool.false_or, Bool.true_or, Fin.isValue, Fin.val_zero, Fin.val_one, Fin.val_two, Fin.reduceFinMk, Option.toList_some, Option.toList_none, List.nil_append, List.cons_append, zwt_nil, zwt_i, zwt_l, zwt_r, zthr_nil, List.isEmpty_nil, zcE, ↓ar_k, lgc0, true_and, and_true, true_implies, implies_true, false_implies, forall_const, i_len, ob_0, ob_1, ↓bI_01, bI_0, not_true_eq_false, not_false_eq_true, Bool.not_eq_false, Bool.not_eq_true, ia_add, ia_sub, ia_mul, ia_neg, ↓ldI, ↓ldL, zaI_c, zaL_c, ↓zlen_I, ↓zlen_L, ↓stI, ↓stL, gD_sI, gN_sI, gI_sI, gJ_sI, gR_sI, gA_sI, gB_sI, gT_sI, gD_sJ, gN_sJ, gI_sJ, gJ_sJ, gR_sJ, gA_sJ, gB_sJ, gT_sJ, gD_sR, gN_sR, gI_sR, gJ_sR, gR_sR, gA_sR, gB_sR, gT_sR, gD_sA, gN_sA, gI_sA, gJ_sA, gR_sA, gA_sA, gB_sA, gT_sA, gD_sB, gN_sB, gI_sB, gJ_sB, gR_sB, gA_sB, gB_sB, gT_sB, zx_il0, zx_il1, zx_il2, zx_il3, zx_ll0, zx_ll1, zx_ll2, zx_ll3, zx_al0, zx_al1, zx_al2, zx_al3, e_has, e_bA, e_mn, e_mx, e_pcI, e_pcL, e_low, tc0, tc1, tc2, tc3, vc0_2, vc1_2, vc0_3, vc1_3, vc2_3, vc0_4, vc1_4, vc2_4, vc3_4, m_in, i10, i20, i00, i11, true_or, false_or, Bool.true_eq_false, eq_self, zml_262, zg262_0, zb262_0, zb262_4, zg262_43, zb262_43, zg262_45, zb262_45, zg262_51, zb262_51, zb262_53, zg262_87, zb262_87, zg262_93, zb262_93, zg262_100, zb262_100, zg262_129, zb262_129, zmc_225, zms_225, zow_225, zhd_225, zmc_261, zms_261, zow_261, zhd_261, zmc_262, zms_262, zow_262, zhd_262, ↓gf_11_10, ↓gf_11_36, ↓gf_11_37, ↓gf_11_38, ↓gf_11_39, ↓gf_11_40, ↓gf_11_41, ↓gf_11_42, ↓gf_11_43, ↓gv_11, show ztg 11 40 = 51 from rfl, show ztg 114 15 = 129 from rfl, show ztg 20 25 = 45 from rfl, show ztg 25 18 = 43 from rfl, show ztg 40 5 = 45 from rfl, show ztg 48 (-44) = 4 from rfl, show ztg 60 33 = 93 from rfl, show ztg 69 18 = 87 from rfl, show ztg 74 13 = 87 from rfl, show ztg 90 (-37) = 53 from rfl, show ztg 95 5 = 100 from rfl, LM_d hL2, LM_r10 hL2, LM_k10 hL2, LM_n10 hL2, LM_r40 hL2, LM_k40 hL2, LM_n40 hL2, LM_r42 hL2, LM_k42 hL2, LM_n42 hL2, LM_r38 hL2, LM_k38 hL2, LM_n38 hL2, LM_r37 hL2, LM_k37 hL2, LM_n37 hL2, LM_r41 hL2, LM_k41 hL2, LM_n41 hL2, LM_r39 hL2, LM_k39 hL2, LM_n39 hL2, LM_r36 hL2, LM_k36 hL2, LM_n36 hL2, MT_3 hT2, th2, ea.1, decide_eq_true ea.2, i_natN (a := i) (by omega), i_inT (a := ((i : Nat) : Int)) (n := 12) (by omega) (by omega), mi.2.1]
        try simp (disch := omega) only [ii_lt, ii_le, ii_eq, ii_eq0, ii_lt0, ii_0lt, ii_le0, ii_0le, i_inT, i_natN, i_nat, ia_div, ia_rem, hs_ofI, i_1shl, i_or, i_bit, true_and, and_true, not_true_eq_false, not_false_eq_true, true_implies, false_implies, implies_true, Int.reduceLT, Int.reduceLE, Int.reduceEq, Int.reduceNeg, Int.toNat_natCast, Int.reduceToNat, Nat.reduceLeDiff, Nat.reduceAdd, tn_2, tn_2p, tn_48, tn_48r, tn_3, tn_3p, tn_3q, tn_p1, tn_d2, tn_12, ia_add, ia_sub, ia_mul]
        refine ⟨fun z => by omega, fun _ => ⟨fun z4 => ?_, fun z4 => ?_⟩⟩
        · refine skip (fun q => q.2.2 ?_)
          cases o with
          | none =>
            have z4 : (i : Int) = -1 := z4
            omega
          | some q2 =>
            have z4 : (i : Int) = (q2 : Int) := z4
            rw [show i = q2 from by omega]
        · have ne : o ≠ some i := by
            intro e
            rw [e] at z4
            exact z4 rfl
          refine ih ci _ (RX_A (q := 1210) hwf hx2 (by omega)) (fun r hr => ?_)
          by_cases e : r = i
          · subst e
            rw [if_pos ⟨by omega, ea.1, ea.2, ne⟩]
            refine ⟨?_, ?_, fun q => ⟨?_, fun q2 => ⟨?_, fun q3 => ?_⟩⟩⟩
            · rw [gA_sA, if_neg (by decide)]
              exact mi.1
            · rw [gA_self]
              exact u_self
            · rw [gA_sA, if_neg (by decide)]
              exact (mi.2.2 q).1
            · rw [gA_sA, if_neg (by decide)]
              exact ((mi.2.2 q).2 q2).1
            · rw [gA_sA, if_neg (by decide)]
              exact ((mi.2.2 q).2 q2).2 q3
          · refine MR_A ?_ e
            have k := hm2' r hr
            by_cases e2 : r < i ∧ att T R z r = true ∧ cor T R z r = c ∧ o ≠ some r
            · rw [if_pos e2] at k
              rw [if_pos ⟨by omega, e2.2⟩]
              exact k
            · rw [if_neg e2] at k
              rw [if_neg (fun z => e2 ⟨by omega, z.2⟩)]
              exact k
    · have e : i = nR T := by omega
      subst e
      have others : ∀ r, r < nR T → o ≠ some r → MR τ2 (zc T R now z (c + 1) r) r := by
        intro r hr q
        have k := hm2' r hr
        by_cases q1 : att T R z r = true ∧ cor T R z r = c
        · rw [if_pos ⟨hr, q1.1, q1.2, q⟩] at k
          rw [(own r q1.1 q1.2).2]
          unfold lgo
          rw [if_pos q1.1, q1.2, ho, if_neg q]
          exact k
        · rw [if_neg (fun q2 => q1 ⟨q2.2.1, q2.2.2.1⟩)] at k
          rw [same r q1]
          exact k
      have hsame : ∀ r, o ≠ some r → rH (zc T R now z (c + 1) r) = rH (zc T R now z c r) := by
        intro r q
        by_cases q1 : att T R z r = true ∧ cor T R z r = c
        · rw [(own r q1.1 q1.2).2, (own r q1.1 q1.2).1]
          unfold lgo
          rw [if_pos q1.1, q1.2, ho, if_neg q]
          rfl
        · rw [same r q1]
      cases o with
      | none =>
        simp -implicitDefEqProofs only [zx_iconst, zx_bipush, zx_sipush, zx_lconst, zx_ldc, zx_ldcS, zx_ldc_w, zx_ldc2_w, zx_iload, zx_lload, zx_aload, zx_istore_n, zx_istore, zx_lstore_n, zx_lstore, zx_astore_n, zx_astore, zx_iinc, zx_iadd, zx_isub, zx_imul, zx_iand, zx_ior, zx_ixor, zx_ishl, zx_ishr, zx_iushr, zx_idiv, zx_irem, zx_ineg, zx_ladd, zx_lsub, zx_land, zx_lor, zx_lxor, zx_lneg, zx_lshl, zx_lushr, zx_i2l, zx_l2i, zx_lcmp, zx_dup, zx_dup2, zx_pop, zx_goto, zx_if_eq, zx_if_ne, zx_if_lt, zx_if_ge, zx_if_gt, zx_if_le, zx_icmp_eq, zx_icmp_ne, zx_icmp_lt, zx_icmp_ge, zx_icmp_gt, zx_icmp_le, zx_getfield, zx_putfield, zx_iaload, zx_laload, zx_aaload, zx_iastore, zx_lastore, zx_arraylength, zx_ireturn, zx_lreturn, zx_areturn, zx_return, zx_athrow, zx_static0, zx_static1, zx_virt1, zx_static2, zx_virt2, zx_static3, zx_virt3, zx_static4, zx_virt4, zx_static5, zx_virt5, zx_static6, zx_virt6, zx_static7, zx_virt7, zx_cpI, zx_cpL, ↓cpI, ↓cpL, zx_slen, zx_schr, zx_tsw, zx_spec3, new_X, zx_new1, zrun_nil, zrun_cons, ↓zgi_h, ↓zgi_n, ↓zgl_h, ↓zgl_n, ↓zgr_h, ↓zgr_n, zset1, zset2, zins_nil, zins_c, f3, cat_i, cat_l, cat_r, List.filter_cons, List.filter_nil, Bool.false_eq_true, l_of0, lv_args, Nat.reduceBEq, Nat.reduceAdd, Nat.reduceLeDiff, Nat.reduceLT, Bool.not_true, Bool.not_false, Bool.and_true, Bool.true_and, Bool.and_false, Bool.false_and, Nat.reduceEqDiff, reduceIte, List.contains_cons, List.contains_nil, Bool.or_false, Bool.or_true, Bool.false_or, Bool.true_or, Fin.isValue, Fin.val_zero, Fin.val_one, Fin.val_two, Fin.reduceFinMk, Option.toList_some, Option.toList_none, List.nil_append, List.cons_append, zwt_nil, zwt_i, zwt_l, zwt_r, zthr_nil, List.isEmpty_nil, zcE, ↓ar_k, lgc0, true_and, and_true, true_implies, implies_true, false_implies, forall_const, i_len, ob_0, ob_1, ↓bI_01, bI_0, not_true_eq_false, not_false_eq_true, Bool.not_eq_false, Bool.not_eq_true, ia_add, ia_sub, ia_mul, ia_neg, ↓ldI, ↓ldL, zaI_c, zaL_c, ↓zlen_I, ↓zlen_L, ↓stI, ↓stL, gD_sI, gN_sI, gI_sI, gJ_sI, gR_sI, gA_sI, gB_sI, gT_sI, gD_sJ, gN_sJ, gI_sJ, gJ_sJ, gR_sJ, gA_sJ, gB_sJ, gT_sJ, gD_sR, gN_sR, gI_sR, gJ_sR, gR_sR, gA_sR, gB_sR, gT_sR, gD_sA, gN_sA, gI_sA, gJ_sA, gR_sA, gA_sA, gB_sA, gT_sA, gD_sB, gN_sB, gI_sB, gJ_sB, gR_sB, gA_sB, gB_sB, gT_sB, zx_il0, zx_il1, zx_il2, zx_il3, zx_ll0, zx_ll1, zx_ll2, zx_ll3, zx_al0, zx_al1, zx_al2, zx_al3, e_has, e_bA, e_mn, e_mx, e_pcI, e_pcL, e_low, tc0, tc1, tc2, tc3, vc0_2, vc1_2, vc0_3, vc1_3, vc2_3, vc0_4, vc1_4, vc2_4, vc3_4, m_in, i10, i20, i00, i11, true_or, false_or, Bool.true_eq_false, eq_self, zml_262, zg262_0, zb262_0, zb262_4, zg262_43, zb262_43, zg262_45, zb262_45, zg262_51, zb262_51, zb262_53, zg262_87, zb262_87, zg262_93, zb262_93, zg262_100, zb262_100, zg262_129, zb262_129, zmc_225, zms_225, zow_225, zhd_225, zmc_261, zms_261, zow_261, zhd_261, zmc_262, zms_262, zow_262, zhd_262, ↓gf_11_10, ↓gf_11_36, ↓gf_11_37, ↓gf_11_38, ↓gf_11_39, ↓gf_11_40, ↓gf_11_41, ↓gf_11_42, ↓gf_11_43, ↓gv_11, show ztg 11 40 = 51 from rfl, show ztg 114 15 = 129 from rfl, show ztg 20 25 = 45 from rfl, show ztg 25 18 = 43 from rfl, show ztg 40 5 = 45 from rfl, show ztg 48 (-44) = 4 from rfl, show ztg 60 33 = 93 from rfl, show ztg 69 18 = 87 from rfl, show ztg 74 13 = 87 from rfl, show ztg 90 (-37) = 53 from rfl, show ztg 95 5 = 100 from rfl, LM_d hL2, LM_r10 hL2, LM_k10 hL2, LM_n10 hL2, LM_r40 hL2, LM_k40 hL2, LM_n40 hL2, LM_r42 hL2, LM_k42 hL2, LM_n42 hL2, LM_r38 hL2, LM_k38 hL2, LM_n38 hL2, LM_r37 hL2, LM_k37 hL2, LM_n37 hL2, LM_r41 hL2, LM_k41 hL2, LM_n41 hL2, LM_r39 hL2, LM_k39 hL2, LM_n39 hL2, LM_r36 hL2, LM_k36 hL2, LM_n36 hL2, MT_3 hT2, show oI none = -1 from rfl, show (Int32.ofInt (-1) = Int32.ofInt (-1)) = True from eq_true rfl]
        try simp (disch := omega) only [ii_lt, ii_le, ii_eq, ii_eq0, ii_lt0, ii_0lt, ii_le0, ii_0le, i_inT, i_natN, i_nat, ia_div, ia_rem, hs_ofI, i_1shl, i_or, i_bit, true_and, and_true, not_true_eq_false, not_false_eq_true, true_implies, false_implies, implies_true, Int.reduceLT, Int.reduceLE, Int.reduceEq, Int.reduceNeg, Int.toNat_natCast, Int.reduceToNat, Nat.reduceLeDiff, Nat.reduceAdd, tn_2, tn_2p, tn_48, tn_48r, tn_3, tn_3p, tn_3q, tn_p1, tn_d2, tn_12, ia_add, ia_sub, ia_mul]
        refine ⟨fun _ => ?_, fun z => by omega⟩
        refine hQ τ2 0 hx2 (fun r hr => others r hr (fun q => by cases q)) ?_ (by omega)
        unfold hm2
        exact cp_congr _ (fun r _ => by rw [hsame r (fun q => by cases q)])
      | some q =>
        have hq := fst_lt _ q ho
        have aq := fst_at _ q ho
        have aqq := att_ok aq.1
        have ow := own q aq.1 aq.2
        have mq := hm2' q hq
        rw [if_neg (fun z => z.2.2.2 rfl), ow.1] at mq
        have hjq := hj q hq
        have hrq : rH (z q) = -1 := by
          apply Classical.byContradiction
          intro q2
          have := (hjq.2.1.1 q2).1
          omega
        obtain ⟨k1, k2, k3⟩ := mq
        obtain ⟨k4, k5⟩ := k3 hrq
        obtain ⟨k6, k7⟩ := k5 aqq.1
        have wl := wn_le (r := q) hwf hRA
        have p1 : gA τ2 1205 q = Int32.ofInt (wn T R q) := (hx2.1.2.2.2 q hq).1
        obtain ⟨p, hp⟩ : ∃ p : Nat, rO (z q) = (p : Int) := ⟨(rO (z q)).toNat, by omega⟩
        have elg : zc T R now z (c + 1) q = gon T R now q (z q) := by
          rw [ow.2]
          unfold lgo
          rw [if_pos aq.1, aq.2, ho, if_pos rfl]
        rw [hp] at k4
        have bq := hb q hq
        have e43 := hx2.2
        by_cases c6 : rO (z q) + 1 < (wn T R q : Int)
        · have eg : gon T R now q (z q) = (rO (z q) + 1, ln T (wa T R q (p + 1)), rC (z q), rH (z q), rW (z q)) := by
            unfold gon
            rw [if_pos c6, hp]
            rfl
          have wa0 := wa_ok (r := q) (k := p + 1) hwf hRA (by omega)
          have pa := (hx2.1.2.2.2 q hq).2 (p + 1) _ wa0.1
          have x3 := RX_A (q := 1206) (f := upd (gA τ2 1206) q (Int32.ofInt ((p + 1 : Nat) : Int))) hwf hx2 (by omega)
          have x4 := RX_A (q := 1207) (f := upd (gA τ2 1207) q (Int32.ofInt (ln T (wa T R q (p + 1))))) hwf x3 (by omega)
          have hT3 : MT (sA τ2 1206 (upd (gA τ2 1206) q (Int32.ofInt ((p + 1 : Nat) : Int)))) T := MT_sA hwf hT2 (by omega)
          have q5 : (Int32.ofInt ((p : Nat) : Int) = Int32.ofInt ((wn T R q : Int) - 1)) = False := by rw [ii_eq (by omega) (by omega)]; exact eq_false (by omega)
          simp -implicitDefEqProofs only [zx_iconst, zx_bipush, zx_sipush, zx_lconst, zx_ldc, zx_ldcS, zx_ldc_w, zx_ldc2_w, zx_iload, zx_lload, zx_aload, zx_istore_n, zx_istore, zx_lstore_n, zx_lstore, zx_astore_n, zx_astore, zx_iinc, zx_iadd, zx_isub, zx_imul, zx_iand, zx_ior, zx_ixor, zx_ishl, zx_ishr, zx_iushr, zx_idiv, zx_irem, zx_ineg, zx_ladd, zx_lsub, zx_land, zx_lor, zx_lxor, zx_lneg, zx_lshl, zx_lushr, zx_i2l, zx_l2i, zx_lcmp, zx_dup, zx_dup2, zx_pop, zx_goto, zx_if_eq, zx_if_ne, zx_if_lt, zx_if_ge, zx_if_gt, zx_if_le, zx_icmp_eq, zx_icmp_ne, zx_icmp_lt, zx_icmp_ge, zx_icmp_gt, zx_icmp_le, zx_getfield, zx_putfield, zx_iaload, zx_laload, zx_aaload, zx_iastore, zx_lastore, zx_arraylength, zx_ireturn, zx_lreturn, zx_areturn, zx_return, zx_athrow, zx_static0, zx_static1, zx_virt1, zx_static2, zx_virt2, zx_static3, zx_virt3, zx_static4, zx_virt4, zx_static5, zx_virt5, zx_static6, zx_virt6, zx_static7, zx_virt7, zx_cpI, zx_cpL, ↓cpI, ↓cpL, zx_slen, zx_schr, zx_tsw, zx_spec3, new_X, zx_new1, zrun_nil, zrun_cons, ↓zgi_h, ↓zgi_n, ↓zgl_h, ↓zgl_n, ↓zgr_h, ↓zgr_n, zset1, zset2, zins_nil, zins_c, f3, cat_i, cat_l, cat_r, List.filter_cons, List.filter_nil, Bool.false_eq_true, l_of0, lv_args, Nat.reduceBEq, Nat.reduceAdd, Nat.reduceLeDiff, Nat.reduceLT, Bool.not_true, Bool.not_false, Bool.and_true, Bool.true_and, Bool.and_false, Bool.false_and, Nat.reduceEqDiff, reduceIte, List.contains_cons, List.contains_nil, Bool.or_false, Bool.or_true, Bool.false_or, Bool.true_or, Fin.isValue, Fin.val_zero, Fin.val_one, Fin.val_two, Fin.reduceFinMk, Option.toList_some, Option.toList_none, List.nil_append, List.cons_append, zwt_nil, zwt_i, zwt_l, zwt_r, zthr_nil, List.isEmpty_nil, zcE, ↓ar_k, lgc0, true_and, and_true, true_implies, implies_true, false_implies, forall_const, i_len, ob_0, ob_1, ↓bI_01, bI_0, not_true_eq_false, not_false_eq_true, Bool.not_eq_false, Bool.not_eq_true, ia_add, ia_sub, ia_mul, ia_neg, ↓ldI, ↓ldL, zaI_c, zaL_c, ↓zlen_I, ↓zlen_L, ↓stI, ↓stL, gD_sI, gN_sI, gI_sI, gJ_sI, gR_sI, gA_sI, gB_sI, gT_sI, gD_sJ, gN_sJ, gI_sJ, gJ_sJ, gR_sJ, gA_sJ, gB_sJ, gT_sJ, gD_sR, gN_sR, gI_sR, gJ_sR, gR_sR, gA_sR, gB_sR, gT_sR, gD_sA, gN_sA, gI_sA, gJ_sA, gR_sA, gA_sA, gB_sA, gT_sA, gD_sB, gN_sB, gI_sB, gJ_sB, gR_sB, gA_sB, gB_sB, gT_sB, zx_il0, zx_il1, zx_il2, zx_il3, zx_ll0, zx_ll1, zx_ll2, zx_ll3, zx_al0, zx_al1, zx_al2, zx_al3, e_has, e_bA, e_mn, e_mx, e_pcI, e_pcL, e_low, tc0, tc1, tc2, tc3, vc0_2, vc1_2, vc0_3, vc1_3, vc2_3, vc0_4, vc1_4, vc2_4, vc3_4, m_in, i10, i20, i00, i11, true_or, false_or, Bool.true_eq_false, eq_self, zml_262, zg262_0, zb262_0, zb262_4, zg262_43, zb262_43, zg262_45, zb262_45, zg262_51, zb262_51, zb262_53, zg262_87, zb262_87, zg262_93, zb262_93, zg262_100, zb262_100, zg262_129, zb262_129, zmc_225, zms_225, zow_225, zhd_225, zmc_261, zms_261, zow_261, zhd_261, zmc_262, zms_262, zow_262, zhd_262, ↓gf_11_10, ↓gf_11_36, ↓gf_11_37, ↓gf_11_38, ↓gf_11_39, ↓gf_11_40, ↓gf_11_41, ↓gf_11_42, ↓gf_11_43, ↓gv_11, show ztg 11 40 = 51 from rfl, show ztg 114 15 = 129 from rfl, show ztg 20 25 = 45 from rfl, show ztg 25 18 = 43 from rfl, show ztg 40 5 = 45 from rfl, show ztg 48 (-44) = 4 from rfl, show ztg 60 33 = 93 from rfl, show ztg 69 18 = 87 from rfl, show ztg 74 13 = 87 from rfl, show ztg 90 (-37) = 53 from rfl, show ztg 95 5 = 100 from rfl, LM_d hL2, LM_r10 hL2, LM_k10 hL2, LM_n10 hL2, LM_r40 hL2, LM_k40 hL2, LM_n40 hL2, LM_r42 hL2, LM_k42 hL2, LM_n42 hL2, LM_r38 hL2, LM_k38 hL2, LM_n38 hL2, LM_r37 hL2, LM_k37 hL2, LM_n37 hL2, LM_r41 hL2, LM_k41 hL2, LM_n41 hL2, LM_r39 hL2, LM_k39 hL2, LM_n39 hL2, LM_r36 hL2, LM_k36 hL2, LM_n36 hL2, MT_3 hT2, show oI (some q) = (q : Int) from rfl, show (Int32.ofInt (q : Int) = Int32.ofInt (-1)) = False from by rw [ii_eq (by omega) (by omega)]; exact eq_false (by omega), i_natN (a := q) (by omega), i_inT (a := ((q : Nat) : Int)) (n := 12) (by omega) (by omega), k4, p1, q5, show (p : Int) + 1 = ((p + 1 : Nat) : Int) from rfl, gA_self, u_self, LM_p36 hL2 q (by omega), LM_q36 hL2 q (by omega), eq_false (show ¬ 1193 + q = 1206 from by omega), i_natN (a := p + 1) (by omega), i_inT (a := ((p + 1 : Nat) : Int)) (n := 48) (by omega) (by omega), pa, m_long hT3 hwf wa0.2]
          try simp (disch := omega) only [ii_lt, ii_le, ii_eq, ii_eq0, ii_lt0, ii_0lt, ii_le0, ii_0le, i_inT, i_natN, i_nat, ia_div, ia_rem, hs_ofI, i_1shl, i_or, i_bit, true_and, and_true, not_true_eq_false, not_false_eq_true, true_implies, false_implies, implies_true, Int.reduceLT, Int.reduceLE, Int.reduceEq, Int.reduceNeg, Int.toNat_natCast, Int.reduceToNat, Nat.reduceLeDiff, Nat.reduceAdd, tn_2, tn_2p, tn_48, tn_48r, tn_3, tn_3p, tn_3q, tn_p1, tn_d2, tn_12, ia_add, ia_sub, ia_mul]
          refine ⟨fun _ => ?_, fun z => by omega⟩
          have wb := wf_bg hwf wa0.2
          refine hQ _ 0 x4 (fun r hr => ?_) ?_ (by omega)
          · by_cases e : r = q
            · subst e
              rw [elg, eg]
              refine ⟨?_, ?_, fun _ => ⟨?_, fun _ => ⟨?_, fun q3 => ?_⟩⟩⟩
              · rw [gA_sA, if_neg (by decide), gA_sA, if_neg (by decide)]
                exact k1
              · rw [gA_sA, if_neg (by decide), gA_sA, if_neg (by decide)]
                exact k2
              · rw [gA_sA, if_neg (by decide), gA_self, u_self]
                show _ = Int32.ofInt (rO (z r) + 1)
                rw [hp]
                rfl
              · rw [gA_self]
                exact u_self
              · have q3 : ln T (wa T R r (p + 1)) = 0 := q3
                omega
            · exact MR_A (MR_A (others r hr (fun z => e (Option.some.inj z).symm)) e) e
          · unfold hm2
            refine cp_congr _ (fun r _ => ?_)
            by_cases e : r = q
            · subst e
              rw [elg, eg, ow.1]
              rfl
            · rw [hsame r (fun z => e (Option.some.inj z).symm)]
        · have eg : gon T R now q (z q) = (rO (z q) + 1, rG (z q), rC (z q), (now : Int), rW (z q)) := by
            unfold gon
            rw [if_neg c6]
          have x3 := RX_A (q := 1209) (f := upd (gA τ2 1209) q (Int32.ofInt now)) hwf hx2 (by omega)
          have q5 : (Int32.ofInt ((p : Nat) : Int) = Int32.ofInt ((wn T R q : Int) - 1)) = True := by rw [ii_eq (by omega) (by omega)]; exact eq_true (by omega)
          simp -implicitDefEqProofs only [zx_iconst, zx_bipush, zx_sipush, zx_lconst, zx_ldc, zx_ldcS, zx_ldc_w, zx_ldc2_w, zx_iload, zx_lload, zx_aload, zx_istore_n, zx_istore, zx_lstore_n, zx_lstore, zx_astore_n, zx_astore, zx_iinc, zx_iadd, zx_isub, zx_imul, zx_iand, zx_ior, zx_ixor, zx_ishl, zx_ishr, zx_iushr, zx_idiv, zx_irem, zx_ineg, zx_ladd, zx_lsub, zx_land, zx_lor, zx_lxor, zx_lneg, zx_lshl, zx_lushr, zx_i2l, zx_l2i, zx_lcmp, zx_dup, zx_dup2, zx_pop, zx_goto, zx_if_eq, zx_if_ne, zx_if_lt, zx_if_ge, zx_if_gt, zx_if_le, zx_icmp_eq, zx_icmp_ne, zx_icmp_lt, zx_icmp_ge, zx_icmp_gt, zx_icmp_le, zx_getfield, zx_putfield, zx_iaload, zx_laload, zx_aaload, zx_iastore, zx_lastore, zx_arraylength, zx_ireturn, zx_lreturn, zx_areturn, zx_return, zx_athrow, zx_static0, zx_static1, zx_virt1, zx_static2, zx_virt2, zx_static3, zx_virt3, zx_static4, zx_virt4, zx_static5, zx_virt5, zx_static6, zx_virt6, zx_static7, zx_virt7, zx_cpI, zx_cpL, ↓cpI, ↓cpL, zx_slen, zx_schr, zx_tsw, zx_spec3, new_X, zx_new1, zrun_nil, zrun_cons, ↓zgi_h, ↓zgi_n, ↓zgl_h, ↓zgl_n, ↓zgr_h, ↓zgr_n, zset1, zset2, zins_nil, zins_c, f3, cat_i, cat_l, cat_r, List.filter_cons, List.filter_nil, Bool.false_eq_true, l_of0, lv_args, Nat.reduceBEq, Nat.reduceAdd, Nat.reduceLeDiff, Nat.reduceLT, Bool.not_true, Bool.not_false, Bool.and_true, Bool.true_and, Bool.and_false, Bool.false_and, Nat.reduceEqDiff, reduceIte, List.contains_cons, List.contains_nil, Bool.or_false, Bool.or_true, Bool.false_or, Bool.true_or, Fin.isValue, Fin.val_zero, Fin.val_one, Fin.val_two, Fin.reduceFinMk, Option.toList_some, Option.toList_none, List.nil_append, List.cons_append, zwt_nil, zwt_i, zwt_l, zwt_r, zthr_nil, List.isEmpty_nil, zcE, ↓ar_k, lgc0, true_and, and_true, true_implies, implies_true, false_implies, forall_const, i_len, ob_0, ob_1, ↓bI_01, bI_0, not_true_eq_false, not_false_eq_true, Bool.not_eq_false, Bool.not_eq_true, ia_add, ia_sub, ia_mul, ia_neg, ↓ldI, ↓ldL, zaI_c, zaL_c, ↓zlen_I, ↓zlen_L, ↓stI, ↓stL, gD_sI, gN_sI, gI_sI, gJ_sI, gR_sI, gA_sI, gB_sI, gT_sI, gD_sJ, gN_sJ, gI_sJ, gJ_sJ, gR_sJ, gA_sJ, gB_sJ, gT_sJ, gD_sR, gN_sR, gI_sR, gJ_sR, gR_sR, gA_sR, gB_sR, gT_sR, gD_sA, gN_sA, gI_sA, gJ_sA, gR_sA, gA_sA, gB_sA, gT_sA, gD_sB, gN_sB, gI_sB, gJ_sB, gR_sB, gA_sB, gB_sB, gT_sB, zx_il0, zx_il1, zx_il2, zx_il3, zx_ll0, zx_ll1, zx_ll2, zx_ll3, zx_al0, zx_al1, zx_al2, zx_al3, e_has, e_bA, e_mn, e_mx, e_pcI, e_pcL, e_low, tc0, tc1, tc2, tc3, vc0_2, vc1_2, vc0_3, vc1_3, vc2_3, vc0_4, vc1_4, vc2_4, vc3_4, m_in, i10, i20, i00, i11, true_or, false_or, Bool.true_eq_false, eq_self, zml_262, zg262_0, zb262_0, zb262_4, zg262_43, zb262_43, zg262_45, zb262_45, zg262_51, zb262_51, zb262_53, zg262_87, zb262_87, zg262_93, zb262_93, zg262_100, zb262_100, zg262_129, zb262_129, zmc_225, zms_225, zow_225, zhd_225, zmc_261, zms_261, zow_261, zhd_261, zmc_262, zms_262, zow_262, zhd_262, ↓gf_11_10, ↓gf_11_36, ↓gf_11_37, ↓gf_11_38, ↓gf_11_39, ↓gf_11_40, ↓gf_11_41, ↓gf_11_42, ↓gf_11_43, ↓gv_11, show ztg 11 40 = 51 from rfl, show ztg 114 15 = 129 from rfl, show ztg 20 25 = 45 from rfl, show ztg 25 18 = 43 from rfl, show ztg 40 5 = 45 from rfl, show ztg 48 (-44) = 4 from rfl, show ztg 60 33 = 93 from rfl, show ztg 69 18 = 87 from rfl, show ztg 74 13 = 87 from rfl, show ztg 90 (-37) = 53 from rfl, show ztg 95 5 = 100 from rfl, LM_d hL2, LM_r10 hL2, LM_k10 hL2, LM_n10 hL2, LM_r40 hL2, LM_k40 hL2, LM_n40 hL2, LM_r42 hL2, LM_k42 hL2, LM_n42 hL2, LM_r38 hL2, LM_k38 hL2, LM_n38 hL2, LM_r37 hL2, LM_k37 hL2, LM_n37 hL2, LM_r41 hL2, LM_k41 hL2, LM_n41 hL2, LM_r39 hL2, LM_k39 hL2, LM_n39 hL2, LM_r36 hL2, LM_k36 hL2, LM_n36 hL2, MT_3 hT2, show oI (some q) = (q : Int) from rfl, show (Int32.ofInt (q : Int) = Int32.ofInt (-1)) = False from by rw [ii_eq (by omega) (by omega)]; exact eq_false (by omega), i_natN (a := q) (by omega), i_inT (a := ((q : Nat) : Int)) (n := 12) (by omega) (by omega), k4, p1, q5, e43]
          try simp (disch := omega) only [ii_lt, ii_le, ii_eq, ii_eq0, ii_lt0, ii_0lt, ii_le0, ii_0le, i_inT, i_natN, i_nat, ia_div, ia_rem, hs_ofI, i_1shl, i_or, i_bit, true_and, and_true, not_true_eq_false, not_false_eq_true, true_implies, false_implies, implies_true, Int.reduceLT, Int.reduceLE, Int.reduceEq, Int.reduceNeg, Int.toNat_natCast, Int.reduceToNat, Nat.reduceLeDiff, Nat.reduceAdd, tn_2, tn_2p, tn_48, tn_48r, tn_3, tn_3p, tn_3q, tn_p1, tn_d2, tn_12, ia_add, ia_sub, ia_mul]
          refine ⟨fun _ => ?_, fun z => by omega⟩
          refine hQ _ 1 x3 (fun r hr => ?_) ?_ (by omega)
          · by_cases e : r = q
            · subst e
              rw [elg, eg]
              refine ⟨?_, ?_, fun q3 => ?_⟩
              · rw [gA_self]
                exact u_self
              · rw [gA_sA, if_neg (by decide)]
                exact k2
              · have q3 : (now : Int) = -1 := q3
                omega
            · exact MR_A (others r hr (fun z => e (Option.some.inj z).symm)) e
          · unfold hm2
            refine cp_rem (i := q) _ hq ?_ (fun r => ?_)
            · rw [elg, eg]
              exact decide_eq_true (show (now : Int) ≠ -1 from by omega)
            · by_cases e : r = q
              · subst e
                rw [ow.1, hrq, decide_eq_false (p := r ≠ r) (fun z => z rfl), Bool.and_false]
                rfl
              · rw [hsame r (fun z => e (Option.some.inj z).symm), decide_eq_true (p := r ≠ q) e, Bool.and_true]
  have firsts : ∀ i : Nat, i ≤ nR T → zfp zP (zcall zP 262) 262 Q 4 [(0, .ref 88), (1, .int (Int32.ofInt c)), (2, .int (Int32.ofInt (oI (fst T R z c i)))), (3, .int (Int32.ofInt i))] [] (hOf τ) 0 0 := by
    refine bk _ ?_
    intro i hi ih
    rw [zg262_4]
    by_cases ci : i < nR T
    · have ihh := ih ci
      rw [show fst T R z c (i + 1) = (if att T R z i = true ∧ cor T R z i = c then (match fst T R z c i with
        | none => some i
        | some q => if rC (z i) < rC (z q) then some i else some q) else fst T R z c i) from rfl] at ihh
      cases ea : (att T R z i && decide (cor T R z i = c)) with
      | false =>
        have na : ¬ (att T R z i = true ∧ cor T R z i = c) := by
          intro q
          rw [q.1, decide_eq_true q.2] at ea
          cases ea
        rw [if_neg na] at ihh
        simp -implicitDefEqProofs only [zx_iconst, zx_bipush, zx_sipush, zx_lconst, zx_ldc, zx_ldcS, zx_ldc_w, zx_ldc2_w, zx_iload, zx_lload, zx_aload, zx_istore_n, zx_istore, zx_lstore_n, zx_lstore, zx_astore_n, zx_astore, zx_iinc, zx_iadd, zx_isub, zx_imul, zx_iand, zx_ior, zx_ixor, zx_ishl, zx_ishr, zx_iushr, zx_idiv, zx_irem, zx_ineg, zx_ladd, zx_lsub, zx_land, zx_lor, zx_lxor, zx_lneg, zx_lshl, zx_lushr, zx_i2l, zx_l2i, zx_lcmp, zx_dup, zx_dup2, zx_pop, zx_goto, zx_if_eq, zx_if_ne, zx_if_lt, zx_if_ge, zx_if_gt, zx_if_le, zx_icmp_eq, zx_icmp_ne, zx_icmp_lt, zx_icmp_ge, zx_icmp_gt, zx_icmp_le, zx_getfield, zx_putfield, zx_iaload, zx_laload, zx_aaload, zx_iastore, zx_lastore, zx_arraylength, zx_ireturn, zx_lreturn, zx_areturn, zx_return, zx_athrow, zx_static0, zx_static1, zx_virt1, zx_static2, zx_virt2, zx_static3, zx_virt3, zx_static4, zx_virt4, zx_static5, zx_virt5, zx_static6, zx_virt6, zx_static7, zx_virt7, zx_cpI, zx_cpL, ↓cpI, ↓cpL, zx_slen, zx_schr, zx_tsw, zx_spec3, new_X, zx_new1, zrun_nil, zrun_cons, ↓zgi_h, ↓zgi_n, ↓zgl_h, ↓zgl_n, ↓zgr_h, ↓zgr_n, zset1, zset2, zins_nil, zins_c, f3, cat_i, cat_l, cat_r, List.filter_cons, List.filter_nil, Bool.false_eq_true, l_of0, lv_args, Nat.reduceBEq, Nat.reduceAdd, Nat.reduceLeDiff, Nat.reduceLT, Bool.not_true, Bool.not_false, Bool.and_true, Bool.true_and, Bool.and_false, Bool.false_and, Nat.reduceEqDiff, reduceIte, List.contains_cons, List.contains_nil, Bool.or_false, Bool.or_true, Bool.false_or, Bool.true_or, Fin.isValue, Fin.val_zero, Fin.val_one, Fin.val_two, Fin.reduceFinMk, Option.toList_some, Option.toList_none, List.nil_append, List.cons_append, zwt_nil, zwt_i, zwt_l, zwt_r, zthr_nil, List.isEmpty_nil, zcE, ↓ar_k, lgc0, true_and, and_true, true_implies, implies_true, false_implies, forall_const, i_len, ob_0, ob_1, ↓bI_01, bI_0, not_true_eq_false, not_false_eq_true, Bool.not_eq_false, Bool.not_eq_true, ia_add, ia_sub, ia_mul, ia_neg, ↓ldI, ↓ldL, zaI_c, zaL_c, ↓zlen_I, ↓zlen_L, ↓stI, ↓stL, gD_sI, gN_sI, gI_sI, gJ_sI, gR_sI, gA_sI, gB_sI, gT_sI, gD_sJ, gN_sJ, gI_sJ, gJ_sJ, gR_sJ, gA_sJ, gB_sJ, gT_sJ, gD_sR, gN_sR, gI_sR, gJ_sR, gR_sR, gA_sR, gB_sR, gT_sR, gD_sA, gN_sA, gI_sA, gJ_sA, gR_sA, gA_sA, gB_sA, gT_sA, gD_sB, gN_sB, gI_sB, gJ_sB, gR_sB, gA_sB, gB_sB, gT_sB, zx_il0, zx_il1, zx_il2, zx_il3, zx_ll0, zx_ll1, zx_ll2, zx_ll3, zx_al0, zx_al1, zx_al2, zx_al3, e_has, e_bA, e_mn, e_mx, e_pcI, e_pcL, e_low, tc0, tc1, tc2, tc3, vc0_2, vc1_2, vc0_3, vc1_3, vc2_3, vc0_4, vc1_4, vc2_4, vc3_4, m_in, i10, i20, i00, i11, true_or, false_or, Bool.true_eq_false, eq_self, zml_262, zg262_0, zb262_0, zb262_4, zg262_43, zb262_43, zg262_45, zb262_45, zg262_51, zb262_51, zb262_53, zg262_87, zb262_87, zg262_93, zb262_93, zg262_100, zb262_100, zg262_129, zb262_129, zmc_225, zms_225, zow_225, zhd_225, zmc_261, zms_261, zow_261, zhd_261, zmc_262, zms_262, zow_262, zhd_262, ↓gf_11_10, ↓gf_11_36, ↓gf_11_37, ↓gf_11_38, ↓gf_11_39, ↓gf_11_40, ↓gf_11_41, ↓gf_11_42, ↓gf_11_43, ↓gv_11, show ztg 11 40 = 51 from rfl, show ztg 114 15 = 129 from rfl, show ztg 20 25 = 45 from rfl, show ztg 25 18 = 43 from rfl, show ztg 40 5 = 45 from rfl, show ztg 48 (-44) = 4 from rfl, show ztg 60 33 = 93 from rfl, show ztg 69 18 = 87 from rfl, show ztg 74 13 = 87 from rfl, show ztg 90 (-37) = 53 from rfl, show ztg 95 5 = 100 from rfl, LM_d hLt, LM_r10 hLt, LM_k10 hLt, LM_n10 hLt, LM_r40 hLt, LM_k40 hLt, LM_n40 hLt, LM_r42 hLt, LM_k42 hLt, LM_n42 hLt, LM_r38 hLt, LM_k38 hLt, LM_n38 hLt, LM_r37 hLt, LM_k37 hLt, LM_n37 hLt, LM_r41 hLt, LM_k41 hLt, LM_n41 hLt, LM_r39 hLt, LM_k39 hLt, LM_n39 hLt, LM_r36 hLt, LM_k36 hLt, LM_n36 hLt, MT_3 hTt, th i ci, ea]
        try simp (disch := omega) only [ii_lt, ii_le, ii_eq, ii_eq0, ii_lt0, ii_0lt, ii_le0, ii_0le, i_inT, i_natN, i_nat, ia_div, ia_rem, hs_ofI, i_1shl, i_or, i_bit, true_and, and_true, not_true_eq_false, not_false_eq_true, true_implies, false_implies, implies_true, Int.reduceLT, Int.reduceLE, Int.reduceEq, Int.reduceNeg, Int.toNat_natCast, Int.reduceToNat, Nat.reduceLeDiff, Nat.reduceAdd, tn_2, tn_2p, tn_48, tn_48r, tn_3, tn_3p, tn_3q, tn_p1, tn_d2, tn_12, ia_add, ia_sub, ia_mul]
        exact ⟨fun z => by omega, fun _ => ihh⟩
      | true =>
        rw [Bool.and_eq_true, decide_eq_true_eq] at ea
        rw [if_pos ea] at ihh
        have ow := own i ea.1 ea.2
        have a := att_ok ea.1
        have mi := hm i ci
        rw [ow.1] at mi
        have hji := hj i ci
        have hrh : rH (z i) = -1 := by
          apply Classical.byContradiction
          intro q
          have := (hji.2.1.1 q).1
          omega
        have cai := ((mi.2.2 hrh).2 a.1).2 a.2.2
        have bi := hb i ci
        cases ef : fst T R z c i with
        | none =>
          rw [ef] at ihh
          simp -implicitDefEqProofs only [zx_iconst, zx_bipush, zx_sipush, zx_lconst, zx_ldc, zx_ldcS, zx_ldc_w, zx_ldc2_w, zx_iload, zx_lload, zx_aload, zx_istore_n, zx_istore, zx_lstore_n, zx_lstore, zx_astore_n, zx_astore, zx_iinc, zx_iadd, zx_isub, zx_imul, zx_iand, zx_ior, zx_ixor, zx_ishl, zx_ishr, zx_iushr, zx_idiv, zx_irem, zx_ineg, zx_ladd, zx_lsub, zx_land, zx_lor, zx_lxor, zx_lneg, zx_lshl, zx_lushr, zx_i2l, zx_l2i, zx_lcmp, zx_dup, zx_dup2, zx_pop, zx_goto, zx_if_eq, zx_if_ne, zx_if_lt, zx_if_ge, zx_if_gt, zx_if_le, zx_icmp_eq, zx_icmp_ne, zx_icmp_lt, zx_icmp_ge, zx_icmp_gt, zx_icmp_le, zx_getfield, zx_putfield, zx_iaload, zx_laload, zx_aaload, zx_iastore, zx_lastore, zx_arraylength, zx_ireturn, zx_lreturn, zx_areturn, zx_return, zx_athrow, zx_static0, zx_static1, zx_virt1, zx_static2, zx_virt2, zx_static3, zx_virt3, zx_static4, zx_virt4, zx_static5, zx_virt5, zx_static6, zx_virt6, zx_static7, zx_virt7, zx_cpI, zx_cpL, ↓cpI, ↓cpL, zx_slen, zx_schr, zx_tsw, zx_spec3, new_X, zx_new1, zrun_nil, zrun_cons, ↓zgi_h, ↓zgi_n, ↓zgl_h, ↓zgl_n, ↓zgr_h, ↓zgr_n, zset1, zset2, zins_nil, zins_c, f3, cat_i, cat_l, cat_r, List.filter_cons, List.filter_nil, Bool.false_eq_true, l_of0, lv_args, Nat.reduceBEq, Nat.reduceAdd, Nat.reduceLeDiff, Nat.reduceLT, Bool.not_true, Bool.not_false, Bool.and_true, Bool.true_and, Bool.and_false, Bool.false_and, Nat.reduceEqDiff, reduceIte, List.contains_cons, List.contains_nil, Bool.or_false, Bool.or_true, Bool.false_or, Bool.true_or, Fin.isValue, Fin.val_zero, Fin.val_one, Fin.val_two, Fin.reduceFinMk, Option.toList_some, Option.toList_none, List.nil_append, List.cons_append, zwt_nil, zwt_i, zwt_l, zwt_r, zthr_nil, List.isEmpty_nil, zcE, ↓ar_k, lgc0, true_and, and_true, true_implies, implies_true, false_implies, forall_const, i_len, ob_0, ob_1, ↓bI_01, bI_0, not_true_eq_false, not_false_eq_true, Bool.not_eq_false, Bool.not_eq_true, ia_add, ia_sub, ia_mul, ia_neg, ↓ldI, ↓ldL, zaI_c, zaL_c, ↓zlen_I, ↓zlen_L, ↓stI, ↓stL, gD_sI, gN_sI, gI_sI, gJ_sI, gR_sI, gA_sI, gB_sI, gT_sI, gD_sJ, gN_sJ, gI_sJ, gJ_sJ, gR_sJ, gA_sJ, gB_sJ, gT_sJ, gD_sR, gN_sR, gI_sR, gJ_sR, gR_sR, gA_sR, gB_sR, gT_sR, gD_sA, gN_sA, gI_sA, gJ_sA, gR_sA, gA_sA, gB_sA, gT_sA, gD_sB, gN_sB, gI_sB, gJ_sB, gR_sB, gA_sB, gB_sB, gT_sB, zx_il0, zx_il1, zx_il2, zx_il3, zx_ll0, zx_ll1, zx_ll2, zx_ll3, zx_al0, zx_al1, zx_al2, zx_al3, e_has, e_bA, e_mn, e_mx, e_pcI, e_pcL, e_low, tc0, tc1, tc2, tc3, vc0_2, vc1_2, vc0_3, vc1_3, vc2_3, vc0_4, vc1_4, vc2_4, vc3_4, m_in, i10, i20, i00, i11, true_or, false_or, Bool.true_eq_false, eq_self, zml_262, zg262_0, zb262_0, zb262_4, zg262_43, zb262_43, zg262_45, zb262_45, zg262_51, zb262_51, zb262_53, zg262_87, zb262_87, zg262_93, zb262_93, zg262_100, zb262_100, zg262_129, zb262_129, zmc_225, zms_225, zow_225, zhd_225, zmc_261, zms_261, zow_261, zhd_261, zmc_262, zms_262, zow_262, zhd_262, ↓gf_11_10, ↓gf_11_36, ↓gf_11_37, ↓gf_11_38, ↓gf_11_39, ↓gf_11_40, ↓gf_11_41, ↓gf_11_42, ↓gf_11_43, ↓gv_11, show ztg 11 40 = 51 from rfl, show ztg 114 15 = 129 from rfl, show ztg 20 25 = 45 from rfl, show ztg 25 18 = 43 from rfl, show ztg 40 5 = 45 from rfl, show ztg 48 (-44) = 4 from rfl, show ztg 60 33 = 93 from rfl, show ztg 69 18 = 87 from rfl, show ztg 74 13 = 87 from rfl, show ztg 90 (-37) = 53 from rfl, show ztg 95 5 = 100 from rfl, LM_d hLt, LM_r10 hLt, LM_k10 hLt, LM_n10 hLt, LM_r40 hLt, LM_k40 hLt, LM_n40 hLt, LM_r42 hLt, LM_k42 hLt, LM_n42 hLt, LM_r38 hLt, LM_k38 hLt, LM_n38 hLt, LM_r37 hLt, LM_k37 hLt, LM_n37 hLt, LM_r41 hLt, LM_k41 hLt, LM_n41 hLt, LM_r39 hLt, LM_k39 hLt, LM_n39 hLt, LM_r36 hLt, LM_k36 hLt, LM_n36 hLt, MT_3 hTt, th i ci, ea.1, decide_eq_true ea.2, show oI none = -1 from rfl, show (Int32.ofInt (-1) = Int32.ofInt (-1)) = True from eq_true rfl]
          try simp (disch := omega) only [ii_lt, ii_le, ii_eq, ii_eq0, ii_lt0, ii_0lt, ii_le0, ii_0le, i_inT, i_natN, i_nat, ia_div, ia_rem, hs_ofI, i_1shl, i_or, i_bit, true_and, and_true, not_true_eq_false, not_false_eq_true, true_implies, false_implies, implies_true, Int.reduceLT, Int.reduceLE, Int.reduceEq, Int.reduceNeg, Int.toNat_natCast, Int.reduceToNat, Nat.reduceLeDiff, Nat.reduceAdd, tn_2, tn_2p, tn_48, tn_48r, tn_3, tn_3p, tn_3q, tn_p1, tn_d2, tn_12, ia_add, ia_sub, ia_mul]
          exact ⟨fun z => by omega, fun _ => ihh⟩
        | some q =>
          rw [ef] at ihh
          have hq := fst_lt i q ef
          have aq := fst_at i q ef
          have mq := hm q (by omega)
          rw [(own q aq.1 aq.2).1] at mq
          have aqq := att_ok aq.1
          have hrq : rH (z q) = -1 := by
            apply Classical.byContradiction
            intro q2
            have := ((hj q (by omega)).2.1.1 q2).1
            omega
          have caq := ((mq.2.2 hrq).2 aqq.1).2 aqq.2.2
          have bq := hb q (by omega)
          simp -implicitDefEqProofs only [zx_iconst, zx_bipush, zx_sipush, zx_lconst, zx_ldc, zx_ldcS, zx_ldc_w, zx_ldc2_w, zx_iload, zx_lload, zx_aload, zx_istore_n, zx_istore, zx_lstore_n, zx_lstore, zx_astore_n, zx_astore, zx_iinc, zx_iadd, zx_isub, zx_imul, zx_iand, zx_ior, zx_ixor, zx_ishl, zx_ishr, zx_iushr, zx_idiv, zx_irem, zx_ineg, zx_ladd, zx_lsub, zx_land, zx_lor, zx_lxor, zx_lneg, zx_lshl, zx_lushr, zx_i2l, zx_l2i, zx_lcmp, zx_dup, zx_dup2, zx_pop, zx_goto, zx_if_eq, zx_if_ne, zx_if_lt, zx_if_ge, zx_if_gt, zx_if_le, zx_icmp_eq, zx_icmp_ne, zx_icmp_lt, zx_icmp_ge, zx_icmp_gt, zx_icmp_le, zx_getfield, zx_putfield, zx_iaload, zx_laload, zx_aaload, zx_iastore, zx_lastore, zx_arraylength, zx_ireturn, zx_lreturn, zx_areturn, zx_return, zx_athrow, zx_static0, zx_static1, zx_virt1, zx_static2, zx_virt2, zx_static3, zx_virt3, zx_static4, zx_virt4, zx_static5, zx_virt5, zx_static6, zx_virt6, zx_static7, zx_virt7, zx_cpI, zx_cpL, ↓cpI, ↓cpL, zx_slen, zx_schr, zx_tsw, zx_spec3, new_X, zx_new1, zrun_nil, zrun_cons, ↓zgi_h, ↓zgi_n, ↓zgl_h, ↓zgl_n, ↓zgr_h, ↓zgr_n, zset1, zset2, zins_nil, zins_c, f3, cat_i, cat_l, cat_r, List.filter_cons, List.filter_nil, Bool.false_eq_true, l_of0, lv_args, Nat.reduceBEq, Nat.reduceAdd, Nat.reduceLeDiff, Nat.reduceLT, Bool.not_true, Bool.not_false, Bool.and_true, Bool.true_and, Bool.and_false, Bool.false_and, Nat.reduceEqDiff, reduceIte, List.contains_cons, List.contains_nil, Bool.or_false, Bool.or_true, Bool.false_or, Bool.true_or, Fin.isValue, Fin.val_zero, Fin.val_one, Fin.val_two, Fin.reduceFinMk, Option.toList_some, Option.toList_none, List.nil_append, List.cons_append, zwt_nil, zwt_i, zwt_l, zwt_r, zthr_nil, List.isEmpty_nil, zcE, ↓ar_k, lgc0, true_and, and_true, true_implies, implies_true, false_implies, forall_const, i_len, ob_0, ob_1, ↓bI_01, bI_0, not_true_eq_false, not_false_eq_true, Bool.not_eq_false, Bool.not_eq_true, ia_add, ia_sub, ia_mul, ia_neg, ↓ldI, ↓ldL, zaI_c, zaL_c, ↓zlen_I, ↓zlen_L, ↓stI, ↓stL, gD_sI, gN_sI, gI_sI, gJ_sI, gR_sI, gA_sI, gB_sI, gT_sI, gD_sJ, gN_sJ, gI_sJ, gJ_sJ, gR_sJ, gA_sJ, gB_sJ, gT_sJ, gD_sR, gN_sR, gI_sR, gJ_sR, gR_sR, gA_sR, gB_sR, gT_sR, gD_sA, gN_sA, gI_sA, gJ_sA, gR_sA, gA_sA, gB_sA, gT_sA, gD_sB, gN_sB, gI_sB, gJ_sB, gR_sB, gA_sB, gB_sB, gT_sB, zx_il0, zx_il1, zx_il2, zx_il3, zx_ll0, zx_ll1, zx_ll2, zx_ll3, zx_al0, zx_al1, zx_al2, zx_al3, e_has, e_bA, e_mn, e_mx, e_pcI, e_pcL, e_low, tc0, tc1, tc2, tc3, vc0_2, vc1_2, vc0_3, vc1_3, vc2_3, vc0_4, vc1_4, vc2_4, vc3_4, m_in, i10, i20, i00, i11, true_or, false_or, Bool.true_eq_false, eq_self, zml_262, zg262_0, zb262_0, zb262_4, zg262_43, zb262_43, zg262_45, zb262_45, zg262_51, zb262_51, zb262_53, zg262_87, zb262_87, zg262_93, zb262_93, zg262_100, zb262_100, zg262_129, zb262_129, zmc_225, zms_225, zow_225, zhd_225, zmc_261, zms_261, zow_261, zhd_261, zmc_262, zms_262, zow_262, zhd_262, ↓gf_11_10, ↓gf_11_36, ↓gf_11_37, ↓gf_11_38, ↓gf_11_39, ↓gf_11_40, ↓gf_11_41, ↓gf_11_42, ↓gf_11_43, ↓gv_11, show ztg 11 40 = 51 from rfl, show ztg 114 15 = 129 from rfl, show ztg 20 25 = 45 from rfl, show ztg 25 18 = 43 from rfl, show ztg 40 5 = 45 from rfl, show ztg 48 (-44) = 4 from rfl, show ztg 60 33 = 93 from rfl, show ztg 69 18 = 87 from rfl, show ztg 74 13 = 87 from rfl, show ztg 90 (-37) = 53 from rfl, show ztg 95 5 = 100 from rfl, LM_d hLt, LM_r10 hLt, LM_k10 hLt, LM_n10 hLt, LM_r40 hLt, LM_k40 hLt, LM_n40 hLt, LM_r42 hLt, LM_k42 hLt, LM_n42 hLt, LM_r38 hLt, LM_k38 hLt, LM_n38 hLt, LM_r37 hLt, LM_k37 hLt, LM_n37 hLt, LM_r41 hLt, LM_k41 hLt, LM_n41 hLt, LM_r39 hLt, LM_k39 hLt, LM_n39 hLt, LM_r36 hLt, LM_k36 hLt, LM_n36 hLt, MT_3 hTt, th i ci, ea.1, decide_eq_true ea.2, show oI (some q) = (q : Int) from rfl, i_natN (a := i) (by omega), i_inT (a := ((i : Nat) : Int)) (n := 12) (by omega) (by omega), i_natN (a := q) (by omega), i_inT (a := ((q : Nat) : Int)) (n := 12) (by omega) (by omega), cai, caq]
          try simp (disch := omega) only [ii_lt, ii_le, ii_eq, ii_eq0, ii_lt0, ii_0lt, ii_le0, ii_0le, i_inT, i_natN, i_nat, ia_div, ia_rem, hs_ofI, i_1shl, i_or, i_bit, true_and, and_true, not_true_eq_false, not_false_eq_true, true_implies, false_implies, implies_true, Int.reduceLT, Int.reduceLE, Int.reduceEq, Int.reduceNeg, Int.toNat_natCast, Int.reduceToNat, Nat.reduceLeDiff, Nat.reduceAdd, tn_2, tn_2p, tn_48, tn_48r, tn_3, tn_3p, tn_3q, tn_p1, tn_d2, tn_12, ia_add, ia_sub, ia_mul]
          refine ⟨fun z => by omega, fun _ => ⟨fun z => by omega, fun _ => ⟨fun z4 => ?_, fun z4 => ?_⟩⟩⟩
          · have : ¬ rC (z i) < rC (z q) := by omega
            simp only [if_neg this] at ihh
            exact ihh
          · have : rC (z i) < rC (z q) := by omega
            simp only [if_pos this] at ihh
            exact ihh
    · have e : i = nR T := by omega
      subst e
      simp -implicitDefEqProofs only [zx_iconst, zx_bipush, zx_sipush, zx_lconst, zx_ldc, zx_ldcS, zx_ldc_w, zx_ldc2_w, zx_iload, zx_lload, zx_aload, zx_istore_n, zx_istore, zx_lstore_n, zx_lstore, zx_astore_n, zx_astore, zx_iinc, zx_iadd, zx_isub, zx_imul, zx_iand, zx_ior, zx_ixor, zx_ishl, zx_ishr, zx_iushr, zx_idiv, zx_irem, zx_ineg, zx_ladd, zx_lsub, zx_land, zx_lor, zx_lxor, zx_lneg, zx_lshl, zx_lushr, zx_i2l, zx_l2i, zx_lcmp, zx_dup, zx_dup2, zx_pop, zx_goto, zx_if_eq, zx_if_ne, zx_if_lt, zx_if_ge, zx_if_gt, zx_if_le, zx_icmp_eq, zx_icmp_ne, zx_icmp_lt, zx_icmp_ge, zx_icmp_gt, zx_icmp_le, zx_getfield, zx_putfield, zx_iaload, zx_laload, zx_aaload, zx_iastore, zx_lastore, zx_arraylength, zx_ireturn, zx_lreturn, zx_areturn, zx_return, zx_athrow, zx_static0, zx_static1, zx_virt1, zx_static2, zx_virt2, zx_static3, zx_virt3, zx_static4, zx_virt4, zx_static5, zx_virt5, zx_static6, zx_virt6, zx_static7, zx_virt7, zx_cpI, zx_cpL, ↓cpI, ↓cpL, zx_slen, zx_schr, zx_tsw, zx_spec3, new_X, zx_new1, zrun_nil, zrun_cons, ↓zgi_h, ↓zgi_n, ↓zgl_h, ↓zgl_n, ↓zgr_h, ↓zgr_n, zset1, zset2, zins_nil, zins_c, f3, cat_i, cat_l, cat_r, List.filter_cons, List.filter_nil, Bool.false_eq_true, l_of0, lv_args, Nat.reduceBEq, Nat.reduceAdd, Nat.reduceLeDiff, Nat.reduceLT, Bool.not_true, Bool.not_false, Bool.and_true, Bool.true_and, Bool.and_false, Bool.false_and, Nat.reduceEqDiff, reduceIte, List.contains_cons, List.contains_nil, Bool.or_false, Bool.or_true, Bool.false_or, Bool.true_or, Fin.isValue, Fin.val_zero, Fin.val_one, Fin.val_two, Fin.reduceFinMk, Option.toList_some, Option.toList_none, List.nil_append, List.cons_append, zwt_nil, zwt_i, zwt_l, zwt_r, zthr_nil, List.isEmpty_nil, zcE, ↓ar_k, lgc0, true_and, and_true, true_implies, implies_true, false_implies, forall_const, i_len, ob_0, ob_1, ↓bI_01, bI_0, not_true_eq_false, not_false_eq_true, Bool.not_eq_false, Bool.not_eq_true, ia_add, ia_sub, ia_mul, ia_neg, ↓ldI, ↓ldL, zaI_c, zaL_c, ↓zlen_I, ↓zlen_L, ↓stI, ↓stL, gD_sI, gN_sI, gI_sI, gJ_sI, gR_sI, gA_sI, gB_sI, gT_sI, gD_sJ, gN_sJ, gI_sJ, gJ_sJ, gR_sJ, gA_sJ, gB_sJ, gT_sJ, gD_sR, gN_sR, gI_sR, gJ_sR, gR_sR, gA_sR, gB_sR, gT_sR, gD_sA, gN_sA, gI_sA, gJ_sA, gR_sA, gA_sA, gB_sA, gT_sA, gD_sB, gN_sB, gI_sB, gJ_sB, gR_sB, gA_sB, gB_sB, gT_sB, zx_il0, zx_il1, zx_il2, zx_il3, zx_ll0, zx_ll1, zx_ll2, zx_ll3, zx_al0, zx_al1, zx_al2, zx_al3, e_has, e_bA, e_mn, e_mx, e_pcI, e_pcL, e_low, tc0, tc1, tc2, tc3, vc0_2, vc1_2, vc0_3, vc1_3, vc2_3, vc0_4, vc1_4, vc2_4, vc3_4, m_in, i10, i20, i00, i11, true_or, false_or, Bool.true_eq_false, eq_self, zml_262, zg262_0, zb262_0, zb262_4, zg262_43, zb262_43, zg262_45, zb262_45, zg262_51, zb262_51, zb262_53, zg262_87, zb262_87, zg262_93, zb262_93, zg262_100, zb262_100, zg262_129, zb262_129, zmc_225, zms_225, zow_225, zhd_225, zmc_261, zms_261, zow_261, zhd_261, zmc_262, zms_262, zow_262, zhd_262, ↓gf_11_10, ↓gf_11_36, ↓gf_11_37, ↓gf_11_38, ↓gf_11_39, ↓gf_11_40, ↓gf_11_41, ↓gf_11_42, ↓gf_11_43, ↓gv_11, show ztg 11 40 = 51 from rfl, show ztg 114 15 = 129 from rfl, show ztg 20 25 = 45 from rfl, show ztg 25 18 = 43 from rfl, show ztg 40 5 = 45 from rfl, show ztg 48 (-44) = 4 from rfl, show ztg 60 33 = 93 from rfl, show ztg 69 18 = 87 from rfl, show ztg 74 13 = 87 from rfl, show ztg 90 (-37) = 53 from rfl, show ztg 95 5 = 100 from rfl, LM_d hLt, LM_r10 hLt, LM_k10 hLt, LM_n10 hLt, LM_r40 hLt, LM_k40 hLt, LM_n40 hLt, LM_r42 hLt, LM_k42 hLt, LM_n42 hLt, LM_r38 hLt, LM_k38 hLt, LM_n38 hLt, LM_r37 hLt, LM_k37 hLt, LM_n37 hLt, LM_r41 hLt, LM_k41 hLt, LM_n41 hLt, LM_r39 hLt, LM_k39 hLt, LM_n39 hLt, LM_r36 hLt, LM_k36 hLt, LM_n36 hLt, MT_3 hTt]
      try simp (disch := omega) only [ii_lt, ii_le, ii_eq, ii_eq0, ii_lt0, ii_0lt, ii_le0, ii_0le, i_inT, i_natN, i_nat, ia_div, ia_rem, hs_ofI, i_1shl, i_or, i_bit, true_and, and_true, not_true_eq_false, not_false_eq_true, true_implies, false_implies, implies_true, Int.reduceLT, Int.reduceLE, Int.reduceEq, Int.reduceNeg, Int.toNat_natCast, Int.reduceToNat, Nat.reduceLeDiff, Nat.reduceAdd, tn_2, tn_2p, tn_48, tn_48r, tn_3, tn_3p, tn_3q, tn_p1, tn_d2, tn_12, ia_add, ia_sub, ia_mul]
      refine ⟨fun _ => ?_, fun z => by omega⟩
      refine waits _ rfl 0 (by omega) τ hx (fun r hr => ?_)
      rw [if_neg (fun q => by omega)]
      exact hm r hr
  exact firsts 0 (by omega)
