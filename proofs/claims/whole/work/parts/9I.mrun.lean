/-! TRAFFIC OF THE REFERENCE -/
/-- of the rounds: a rider begins at its time, is home when it is through -/
def jn (T : Tw) (R : Nat → Nat → Bool) (k : Nat) (z : Nat → Rd) : Prop := ∀ r, r < nR T → (wn T R r = 0 → rO (z r) = -1 ∧ rH (z r) = -1) ∧ (rH (z r) ≠ -1 ↔ (rO (z r) = (wn T R r : Int) ∧ 0 < wn T R r)) ∧ (rO (z r) ≠ -1 → rM T r < k) ∧ -1 ≤ rO (z r) ∧ rO (z r) ≤ (wn T R r : Int)
theorem jn_mv {T : Tw} {R : Nat → Nat → Bool} {k : Nat} {z : Nat → Rd} (h : jn T R k z) : jn T R (k + 1) (mv T R k z) := by
  intro r hr
  obtain ⟨h1, h2, h3, h4, h5⟩ := h r hr
  unfold mv
  by_cases c : 0 < wn T R r ∧ rM T r = k
  · rw [if_pos c]
    have n1 : rO (z r) = -1 := by
      apply Classical.byContradiction
      intro q
      have := h3 q
      omega
    have n2 : rH (z r) = -1 := by
      apply Classical.byContradiction
      intro q
      have := (h2.1 q).1
      omega
    refine ⟨fun q => by omega, ⟨fun q => absurd n2 q, fun q => ?_⟩, fun _ => by omega, ?_, ?_⟩
    · have : (0 : Int) = (wn T R r : Int) := q.1
      omega
    · show (-1 : Int) ≤ 0
      omega
    · show (0 : Int) ≤ (wn T R r : Int)
      omega
  · rw [if_neg c]
    split
    · exact ⟨h1, h2, fun q => Nat.lt_succ_of_lt (h3 q), h4, h5⟩
    · exact ⟨h1, h2, fun q => Nat.lt_succ_of_lt (h3 q), h4, h5⟩
theorem jn_lgo {T : Tw} {R : Nat → Nat → Bool} {k now : Nat} {z : Nat → Rd} (h : jn T R k z) : jn T R k (lgo T R now z) := by
  intro r hr
  obtain ⟨h1, h2, h3, h4, h5⟩ := h r hr
  unfold lgo
  by_cases c : att T R z r = true
  · rw [if_pos c]
    have a := att_ok c
    split
    · unfold gon
      by_cases c2 : rO (z r) + 1 < (wn T R r : Int)
      · rw [if_pos c2]
        refine ⟨fun q => by omega, ⟨fun q => ?_, fun q => ?_⟩, fun _ => h3 a.1, ?_, ?_⟩
        · have := h2.1 q
          omega
        · have : rO (z r) + 1 = (wn T R r : Int) := q.1
          omega
        · show -1 ≤ rO (z r) + 1
          omega
        · show rO (z r) + 1 ≤ _
          omega
      · rw [if_neg c2]
        refine ⟨fun q => by omega, ⟨fun _ => ⟨?_, by omega⟩, fun _ => ?_⟩, fun _ => h3 a.1, ?_, ?_⟩
        · show rO (z r) + 1 = _
          omega
        · show (now : Int) ≠ -1
          omega
        · show -1 ≤ rO (z r) + 1
          omega
        · show rO (z r) + 1 ≤ _
          omega
    · exact ⟨h1, h2, h3, h4, h5⟩
  · rw [if_neg c]
    exact ⟨h1, h2, h3, h4, h5⟩
theorem jn_rn {T : Tw} {R : Nat → Nat → Bool} : ∀ k, jn T R k (rn T R k)
  | 0 => fun r hr => ⟨fun _ => ⟨rfl, rfl⟩, ⟨fun q => absurd rfl q, fun q => by have : (-1 : Int) = (wn T R r : Int) := q.1; omega⟩, fun q => absurd rfl q, by show (-1 : Int) ≤ -1; omega, by show (-1 : Int) ≤ _; omega⟩
  | k + 1 => jn_lgo (jn_mv (jn_rn k))
/-- a rider in the reference -/
def MR (σ : zS) (z : Rd) (r : Nat) : Prop := gA σ 1209 r = Int32.ofInt (rH z) ∧ gA σ 1210 r = Int32.ofInt (rW z) ∧ (rH z = -1 → gA σ 1206 r = Int32.ofInt (rO z) ∧ (rO z ≠ -1 → gA σ 1207 r = Int32.ofInt (rG z) ∧ (rG z = 0 → gA σ 1208 r = Int32.ofInt (rC z))))
/-- while it runs -/
def RX (σ τ : zS) (T : Tw) (R : Nat → Nat → Bool) (now : Nat) : Prop := PX σ τ T R (nR T) ∧ gI τ 88 43 = Int32.ofInt now
theorem RX_A {σ τ : zS} {T : Tw} {R : Nat → Nat → Bool} {now q : Nat} {f : Nat → Int32} (hw : wf T) (h : RX σ τ T R now) (hq : 1206 ≤ q ∧ q ≤ 1210) : RX σ (sA τ q f) T R now := by
  have := hw.2.2.1
  refine ⟨⟨fK_A h.1.1 (.inl (by unfold cor2; omega)), h.1.2.1, by rw [gB_sA]; exact h.1.2.2.1, fun r hr => ⟨?_, fun k a e => ?_⟩⟩, h.2⟩
  · rw [gA_sA, if_neg (by omega)]
    exact (h.1.2.2.2 r hr).1
  · rw [gA_sA, if_neg (by omega)]
    exact (h.1.2.2.2 r hr).2 k a e
theorem MR_A {σ : zS} {z : Rd} {r i q : Nat} {x : Int32} (h : MR σ z r) (hr : r ≠ i) : MR (sA σ q (upd (gA σ q) i x)) z r := by
  have e : ∀ a, gA (sA σ q (upd (gA σ q) i x)) a r = gA σ a r := by
    intro a
    rw [gA_sA]
    by_cases c : a = q
    · rw [if_pos c, c]
      show (if r = i then x else gA σ q r) = _
      rw [if_neg hr]
    · rw [if_neg c]
  unfold MR
  rw [e, e, e, e, e]
  exact h
theorem u_self {f : Nat → Int32} {i : Nat} {x : Int32} : upd f i x i = x := if_pos rfl
theorem m_moves {σ τ : zS} {s : Ab} {R : Nat → Nat → Bool} {now r : Nat} {z : Nat → Rd} {Q : zQ} (h : MI σ s) (hRA : ∀ a b, R a b = true → isA (xT s) a = true ∧ isA (xT s) b = true) (hx : RX σ τ (xT s) R now) (hn : now < 1000) (hb : rb (xT s) R now z) (hj : jn (xT s) R now z) (hr : r < nR (xT s)) (hm : MR τ (z r) r) (hQ : ∀ τ2, RX σ τ2 (xT s) R now → MR τ2 (mv (xT s) R now z r) r → (∀ q zz, q ≠ r → MR τ zz q → MR τ2 zz q) → Q (.inl none) (hOf τ2)) : zW zP 260 [.ref 88, .int (Int32.ofInt r)] (hOf τ) Q := by
  have hwf := MI_w h
  have h12 := hwf.2.2.1
  have h24 := hwf.2.1
  have hM := MI_fK hx.1.1 h
  have hLt := MI_L hM
  have hTt := MI_T hM
  obtain ⟨j1, j2, j3, j4, j5⟩ := hj r hr
  obtain ⟨b1, b2, b3, b4, b5, b6, b7⟩ := hb r hr
  have p1 := (hx.1.2.2.2 r hr).1
  have wl := wn_le (r := r) hwf hRA
  have wr := hwf.2.2.2.2.2.2.1 r hr
  have p1 : gA τ 1205 r = Int32.ofInt (wn (xT s) R r) := p1
  obtain ⟨m1, m2, m3⟩ := hm
  have e43 := hx.2
  have same : mv (xT s) R now z r = z r → Q (.inl none) (hOf τ) := by
    intro e
    refine hQ τ hx ?_ (fun q zz _ k => k)
    rw [e]
    exact ⟨m1, m2, m3⟩
  rw [zWE]
  by_cases c1 : wn (xT s) R r = 0
  · have e : mv (xT s) R now z r = z r := by
      unfold mv onw
      rw [if_neg (by omega), if_neg (fun q => by rw [Bool.and_eq_true, decide_eq_true_eq, decide_eq_true_eq] at q; exact q.1.1 (j1 c1).1)]
    rw [c1] at p1
    simp -implicitDefEqProofs only [zx_iconst, zx_bipush, zx_sipush, zx_lconst, zx_ldc, zx_ldcS, zx_ldc_w, zx_ldc2_w, zx_iload, zx_lload, zx_aload, zx_istore_n, zx_istore, zx_lstore_n, zx_lstore, zx_astore_n, zx_astore, zx_iinc, zx_iadd, zx_isub, zx_imul, zx_iand, zx_ior, zx_ixor, zx_ishl, zx_ishr, zx_iushr, zx_idiv, zx_irem, zx_ineg, zx_ladd, zx_lsub, zx_land, zx_lor, zx_lxor, zx_lneg, zx_lshl, zx_lushr, zx_i2l, zx_l2i, zx_lcmp, zx_dup, zx_dup2, zx_pop, zx_goto, zx_if_eq, zx_if_ne, zx_if_lt, zx_if_ge, zx_if_gt, zx_if_le, zx_icmp_eq, zx_icmp_ne, zx_icmp_lt, zx_icmp_ge, zx_icmp_gt, zx_icmp_le, zx_getfield, zx_putfield, zx_iaload, zx_laload, zx_aaload, zx_iastore, zx_lastore, zx_arraylength, zx_ireturn, zx_lreturn, zx_areturn, zx_return, zx_athrow, zx_static0, zx_static1, zx_virt1, zx_static2, zx_virt2, zx_static3, zx_virt3, zx_static4, zx_virt4, zx_static5, zx_virt5, zx_static6, zx_virt6, zx_static7, zx_virt7, zx_cpI, zx_cpL, ↓cpI, ↓cpL, zx_slen, zx_schr, zx_tsw, zx_spec3, new_X, zx_new1, zrun_nil, zrun_cons, ↓zgi_h, ↓zgi_n, ↓zgl_h, ↓zgl_n, ↓zgr_h, ↓zgr_n, zset1, zset2, zins_nil, zins_c, f3, cat_i, cat_l, cat_r, List.filter_cons, List.filter_nil, Bool.false_eq_true, l_of0, lv_args, Nat.reduceBEq, Nat.reduceAdd, Nat.reduceLeDiff, Nat.reduceLT, Bool.not_true, Bool.not_false, Bool.and_true, Bool.true_and, Bool.and_false, Bool.false_and, Nat.reduceEqDiff, reduceIte, List.contains_cons, List.contains_nil, Bool.or_false, Bool.or_true, Bool.false_or, Bool.true_or, Fin.isValue, Fin.val_zero, Fin.val_one, Fin.val_two, Fin.reduceFinMk, Option.toList_some, Option.toList_none, List.nil_append, List.cons_append, zwt_nil, zwt_i, zwt_l, zwt_r, zthr_nil, List.isEmpty_nil, zcE, ↓ar_k, lgc0, true_and, and_true, true_implies, implies_true, false_implies, forall_const, i_len, ob_0, ob_1, ↓bI_01, bI_0, not_true_eq_false, not_false_eq_true, Bool.not_eq_false, Bool.not_eq_true, ia_add, ia_sub, ia_mul, ia_neg, ↓ldI, ↓ldL, zaI_c, zaL_c, ↓zlen_I, ↓zlen_L, ↓stI, ↓stL, gD_sI, gN_sI, gI_sI, gJ_sI, gR_sI, gA_sI, gB_sI, gT_sI, gD_sJ, gN_sJ, gI_sJ, gJ_sJ, gR_sJ, gA_sJ, gB_sJ, gT_sJ, gD_sR, gN_sR, gI_sR, gJ_sR, gR_sR, gA_sR, gB_sR, gT_sR, gD_sA, gN_sA, gI_sA, gJ_sA, gR_sA, gA_sA, gB_sA, gT_sA, gD_sB, gN_sB, gI_sB, gJ_sB, gR_sB, gA_sB, gB_sB, gT_sB, zx_il0, zx_il1, zx_il2, zx_il3, zx_ll0, zx_ll1, zx_ll2, zx_ll3, zx_al0, zx_al1, zx_al2, zx_al3, e_has, e_bA, e_mn, e_mx, e_pcI, e_pcL, e_low, tc0, tc1, tc2, tc3, vc0_2, vc1_2, vc0_3, vc1_3, vc2_3, vc0_4, vc1_4, vc2_4, vc3_4, m_in, i10, i20, i00, i11, true_or, false_or, Bool.true_eq_false, eq_self, zml_260, zg260_0, zb260_0, zg260_19, zb260_19, zg260_20, zb260_20, zg260_46, zb260_46, zg260_72, zb260_72, zg260_82, zb260_82, zg260_111, zb260_111, zmc_225, zms_225, zow_225, zhd_225, zmc_260, zms_260, zow_260, zhd_260, ↓gf_11_16, ↓gf_11_36, ↓gf_11_37, ↓gf_11_38, ↓gf_11_39, ↓gf_11_40, ↓gf_11_41, ↓gf_11_43, ↓gv_11, show ztg 16 4 = 20 from rfl, show ztg 27 45 = 72 from rfl, show ztg 42 4 = 46 from rfl, show ztg 6 13 = 19 from rfl, show ztg 78 4 = 82 from rfl, show ztg 98 13 = 111 from rfl, LM_d hLt, LM_r37 hLt, LM_k37 hLt, LM_n37 hLt, LM_r41 hLt, LM_k41 hLt, LM_n41 hLt, LM_r38 hLt, LM_k38 hLt, LM_n38 hLt, LM_r16 hLt, LM_k16 hLt, LM_n16 hLt, LM_r39 hLt, LM_k39 hLt, LM_n39 hLt, LM_r36 hLt, LM_k36 hLt, LM_n36 hLt, LM_r40 hLt, LM_k40 hLt, LM_n40 hLt, i_natN (a := r) (by omega), i_inT (a := ((r : Nat) : Int)) (n := 12) (by omega) (by omega), p1, show (Int32.ofInt ((0 : Nat) : Int) = 0) = True from eq_true rfl]
    exact same e
  have q1 : (Int32.ofInt ((wn (xT s) R r : Nat) : Int) = 0) = False := by rw [ii_eq0 (by omega)]; exact eq_false (by omega)
  by_cases c2 : rH (z r) = -1
  rotate_left
  · have q2 : (Int32.ofInt (rH (z r)) = Int32.ofInt (-1)) = False := by rw [ii_eq (by omega) (by omega)]; exact eq_false c2
    have e : mv (xT s) R now z r = z r := by
      have k := j2.1 c2
      have k3 := j3 (by omega)
      unfold mv onw
      rw [if_neg (by omega), if_neg (fun q => by rw [Bool.and_eq_true, decide_eq_true_eq, decide_eq_true_eq] at q; omega)]
    simp -implicitDefEqProofs only [zx_iconst, zx_bipush, zx_sipush, zx_lconst, zx_ldc, zx_ldcS, zx_ldc_w, zx_ldc2_w, zx_iload, zx_lload, zx_aload, zx_istore_n, zx_istore, zx_lstore_n, zx_lstore, zx_astore_n, zx_astore, zx_iinc, zx_iadd, zx_isub, zx_imul, zx_iand, zx_ior, zx_ixor, zx_ishl, zx_ishr, zx_iushr, zx_idiv, zx_irem, zx_ineg, zx_ladd, zx_lsub, zx_land, zx_lor, zx_lxor, zx_lneg, zx_lshl, zx_lushr, zx_i2l, zx_l2i, zx_lcmp, zx_dup, zx_dup2, zx_pop, zx_goto, zx_if_eq, zx_if_ne, zx_if_lt, zx_if_ge, zx_if_gt, zx_if_le, zx_icmp_eq, zx_icmp_ne, zx_icmp_lt, zx_icmp_ge, zx_icmp_gt, zx_icmp_le, zx_getfield, zx_putfield, zx_iaload, zx_laload, zx_aaload, zx_iastore, zx_lastore, zx_arraylength, zx_ireturn, zx_lreturn, zx_areturn, zx_return, zx_athrow, zx_static0, zx_static1, zx_virt1, zx_static2, zx_virt2, zx_static3, zx_virt3, zx_static4, zx_virt4, zx_static5, zx_virt5, zx_static6, zx_virt6, zx_static7, zx_virt7, zx_cpI, zx_cpL, ↓cpI, ↓cpL, zx_slen, zx_schr, zx_tsw, zx_spec3, new_X, zx_new1, zrun_nil, zrun_cons, ↓zgi_h, ↓zgi_n, ↓zgl_h, ↓zgl_n, ↓zgr_h, ↓zgr_n, zset1, zset2, zins_nil, zins_c, f3, cat_i, cat_l, cat_r, List.filter_cons, List.filter_nil, Bool.false_eq_true, l_of0, lv_args, Nat.reduceBEq, Nat.reduceAdd, Nat.reduceLeDiff, Nat.reduceLT, Bool.not_true, Bool.not_false, Bool.and_true, Bool.true_and, Bool.and_false, Bool.false_and, Nat.reduceEqDiff, reduceIte, List.contains_cons, List.contains_nil, Bool.or_false, Bool.or_true, Bool.false_or, Bool.true_or, Fin.isValue, Fin.val_zero, Fin.val_one, Fin.val_two, Fin.reduceFinMk, Option.toList_some, Option.toList_none, List.nil_append, List.cons_append, zwt_nil, zwt_i, zwt_l, zwt_r, zthr_nil, List.isEmpty_nil, zcE, ↓ar_k, lgc0, true_and, and_true, true_implies, implies_true, false_implies, forall_const, i_len, ob_0, ob_1, ↓bI_01, bI_0, not_true_eq_false, not_false_eq_true, Bool.not_eq_false, Bool.not_eq_true, ia_add, ia_sub, ia_mul, ia_neg, ↓ldI, ↓ldL, zaI_c, zaL_c, ↓zlen_I, ↓zlen_L, ↓stI, ↓stL, gD_sI, gN_sI, gI_sI, gJ_sI, gR_sI, gA_sI, gB_sI, gT_sI, gD_sJ, gN_sJ, gI_sJ, gJ_sJ, gR_sJ, gA_sJ, gB_sJ, gT_sJ, gD_sR, gN_sR, gI_sR, gJ_sR, gR_sR, gA_sR, gB_sR, gT_sR, gD_sA, gN_sA, gI_sA, gJ_sA, gR_sA, gA_sA, gB_sA, gT_sA, gD_sB, gN_sB, gI_sB, gJ_sB, gR_sB, gA_sB, gB_sB, gT_sB, zx_il0, zx_il1, zx_il2, zx_il3, zx_ll0, zx_ll1, zx_ll2, zx_ll3, zx_al0, zx_al1, zx_al2, zx_al3, e_has, e_bA, e_mn, e_mx, e_pcI, e_pcL, e_low, tc0, tc1, tc2, tc3, vc0_2, vc1_2, vc0_3, vc1_3, vc2_3, vc0_4, vc1_4, vc2_4, vc3_4, m_in, i10, i20, i00, i11, true_or, false_or, Bool.true_eq_false, eq_self, zml_260, zg260_0, zb260_0, zg260_19, zb260_19, zg260_20, zb260_20, zg260_46, zb260_46, zg260_72, zb260_72, zg260_82, zb260_82, zg260_111, zb260_111, zmc_225, zms_225, zow_225, zhd_225, zmc_260, zms_260, zow_260, zhd_260, ↓gf_11_16, ↓gf_11_36, ↓gf_11_37, ↓gf_11_38, ↓gf_11_39, ↓gf_11_40, ↓gf_11_41, ↓gf_11_43, ↓gv_11, show ztg 16 4 = 20 from rfl, show ztg 27 45 = 72 from rfl, show ztg 42 4 = 46 from rfl, show ztg 6 13 = 19 from rfl, show ztg 78 4 = 82 from rfl, show ztg 98 13 = 111 from rfl, LM_d hLt, LM_r37 hLt, LM_k37 hLt, LM_n37 hLt, LM_r41 hLt, LM_k41 hLt, LM_n41 hLt, LM_r38 hLt, LM_k38 hLt, LM_n38 hLt, LM_r16 hLt, LM_k16 hLt, LM_n16 hLt, LM_r39 hLt, LM_k39 hLt, LM_n39 hLt, LM_r36 hLt, LM_k36 hLt, LM_n36 hLt, LM_r40 hLt, LM_k40 hLt, LM_n40 hLt, i_natN (a := r) (by omega), i_inT (a := ((r : Nat) : Int)) (n := 12) (by omega) (by omega), p1, q1, m1, q2]
    exact same e
  obtain ⟨m4, m5⟩ := m3 c2
  have q2 : (Int32.ofInt (rH (z r)) = Int32.ofInt (-1)) = True := by rw [c2]; exact eq_true rfl
  have no : rO (z r) < (wn (xT s) R r : Int) := by
    apply Classical.byContradiction
    intro q
    exact j2.2 ⟨by omega, by omega⟩ c2
  by_cases c3 : rO (z r) = -1
  · have q3 : (Int32.ofInt (rO (z r)) = Int32.ofInt (-1)) = True := by rw [c3]; exact eq_true rfl
    have p3 := (MT_r hTt r hr).2.2
    by_cases c4 : rM (xT s) r = now
    · have wa0 := wa_ok (r := r) (k := 0) hwf hRA (by omega)
      have pa := (hx.1.2.2.2 r hr).2 0 _ wa0.1
      have q4 : (Int32.ofInt ((rM (xT s) r : Nat) : Int) = Int32.ofInt ((now : Nat) : Int)) = True := by rw [c4]; exact eq_true rfl
      have x2 := RX_A (q := 1206) (f := upd (gA τ 1206) r (Int32.ofInt 0)) hwf hx (by omega)
      have x3 := RX_A (q := 1207) (f := upd (gA τ 1207) r (Int32.ofInt (ln (xT s) (wa (xT s) R r 0)))) hwf x2 (by omega)
      simp -implicitDefEqProofs only [zx_iconst, zx_bipush, zx_sipush, zx_lconst, zx_ldc, zx_ldcS, zx_ldc_w, zx_ldc2_w, zx_iload, zx_lload, zx_aload, zx_istore_n, zx_istore, zx_lstore_n, zx_lstore, zx_astore_n, zx_astore, zx_iinc, zx_iadd, zx_isub, zx_imul, zx_iand, zx_ior, zx_ixor, zx_ishl, zx_ishr, zx_iushr, zx_idiv, zx_irem, zx_ineg, zx_ladd, zx_lsub, zx_land, zx_lor, zx_lxor, zx_lneg, zx_lshl, zx_lushr, zx_i2l, zx_l2i, zx_lcmp, zx_dup, zx_dup2, zx_pop, zx_goto, zx_if_eq, zx_if_ne, zx_if_lt, zx_if_ge, zx_if_gt, zx_if_le, zx_icmp_eq, zx_icmp_ne, zx_icmp_lt, zx_icmp_ge, zx_icmp_gt, zx_icmp_le, zx_getfield, zx_putfield, zx_iaload, zx_laload, zx_aaload, zx_iastore, zx_lastore, zx_arraylength, zx_ireturn, zx_lreturn, zx_areturn, zx_return, zx_athrow, zx_static0, zx_static1, zx_virt1, zx_static2, zx_virt2, zx_static3, zx_virt3, zx_static4, zx_virt4, zx_static5, zx_virt5, zx_static6, zx_virt6, zx_static7, zx_virt7, zx_cpI, zx_cpL, ↓cpI, ↓cpL, zx_slen, zx_schr, zx_tsw, zx_spec3, new_X, zx_new1, zrun_nil, zrun_cons, ↓zgi_h, ↓zgi_n, ↓zgl_h, ↓zgl_n, ↓zgr_h, ↓zgr_n, zset1, zset2, zins_nil, zins_c, f3, cat_i, cat_l, cat_r, List.filter_cons, List.filter_nil, Bool.false_eq_true, l_of0, lv_args, Nat.reduceBEq, Nat.reduceAdd, Nat.reduceLeDiff, Nat.reduceLT, Bool.not_true, Bool.not_false, Bool.and_true, Bool.true_and, Bool.and_false, Bool.false_and, Nat.reduceEqDiff, reduceIte, List.contains_cons, List.contains_nil, Bool.or_false, Bool.or_true, Bool.false_or, Bool.true_or, Fin.isValue, Fin.val_zero, Fin.val_one, Fin.val_two, Fin.reduceFinMk, Option.toList_some, Option.toList_none, List.nil_append, List.cons_append, zwt_nil, zwt_i, zwt_l, zwt_r, zthr_nil, List.isEmpty_nil, zcE, ↓ar_k, lgc0, true_and, and_true, true_implies, implies_true, false_implies, forall_const, i_len, ob_0, ob_1, ↓bI_01, bI_0, not_true_eq_false, not_false_eq_true, Bool.not_eq_false, Bool.not_eq_true, ia_add, ia_sub, ia_mul, ia_neg, ↓ldI, ↓ldL, zaI_c, zaL_c, ↓zlen_I, ↓zlen_L, ↓stI, ↓stL, gD_sI, gN_sI, gI_sI, gJ_sI, gR_sI, gA_sI, gB_sI, gT_sI, gD_sJ, gN_sJ, gI_sJ, gJ_sJ, gR_sJ, gA_sJ, gB_sJ, gT_sJ, gD_sR, gN_sR, gI_sR, gJ_sR, gR_sR, gA_sR, gB_sR, gT_sR, gD_sA, gN_sA, gI_sA, gJ_sA, gR_sA, gA_sA, gB_sA, gT_sA, gD_sB, gN_sB, gI_sB, gJ_sB, gR_sB, gA_sB, gB_sB, gT_sB, zx_il0, zx_il1, zx_il2, zx_il3, zx_ll0, zx_ll1, zx_ll2, zx_ll3, zx_al0, zx_al1, zx_al2, zx_al3, e_has, e_bA, e_mn, e_mx, e_pcI, e_pcL, e_low, tc0, tc1, tc2, tc3, vc0_2, vc1_2, vc0_3, vc1_3, vc2_3, vc0_4, vc1_4, vc2_4, vc3_4, m_in, i10, i20, i00, i11, true_or, false_or, Bool.true_eq_false, eq_self, zml_260, zg260_0, zb260_0, zg260_19, zb260_19, zg260_20, zb260_20, zg260_46, zb260_46, zg260_72, zb260_72, zg260_82, zb260_82, zg260_111, zb260_111, zmc_225, zms_225, zow_225, zhd_225, zmc_260, zms_260, zow_260, zhd_260, ↓gf_11_16, ↓gf_11_36, ↓gf_11_37, ↓gf_11_38, ↓gf_11_39, ↓gf_11_40, ↓gf_11_41, ↓gf_11_43, ↓gv_11, show ztg 16 4 = 20 from rfl, show ztg 27 45 = 72 from rfl, show ztg 42 4 = 46 from rfl, show ztg 6 13 = 19 from rfl, show ztg 78 4 = 82 from rfl, show ztg 98 13 = 111 from rfl, LM_d hLt, LM_r37 hLt, LM_k37 hLt, LM_n37 hLt, LM_r41 hLt, LM_k41 hLt, LM_n41 hLt, LM_r38 hLt, LM_k38 hLt, LM_n38 hLt, LM_r16 hLt, LM_k16 hLt, LM_n16 hLt, LM_r39 hLt, LM_k39 hLt, LM_n39 hLt, LM_r36 hLt, LM_k36 hLt, LM_n36 hLt, LM_r40 hLt, LM_k40 hLt, LM_n40 hLt, i_natN (a := r) (by omega), i_inT (a := ((r : Nat) : Int)) (n := 12) (by omega) (by omega), p1, q1, m1, q2, m4, q3, LM_p16 hLt r (by omega), LM_q16 hLt r (by omega), p3, e43, q4, LM_p36 hLt r (by omega), LM_q36 hLt r (by omega), eq_false (show ¬ 1193 + r = 1206 from by omega), pa, m_long (MI_T (MI_fK x2.1.1 h)) hwf wa0.2, i_inT (a := 0) (n := 48) (by omega) (by omega)]
      have e : mv (xT s) R now z r = (0, ln (xT s) (wa (xT s) R r 0), rC (z r), rH (z r), rW (z r)) := if_pos ⟨by omega, c4⟩
      refine hQ _ x3 ?_ (fun q zz hq k => MR_A (MR_A k hq) hq)
      rw [e]
      have wl := wf_bg hwf wa0.2
      refine ⟨?_, ?_, fun _ => ⟨?_, fun _ => ⟨?_, fun q => ?_⟩⟩⟩
      · rw [gA_sA, if_neg (by decide), gA_sA, if_neg (by decide)]
        exact m1
      · rw [gA_sA, if_neg (by decide), gA_sA, if_neg (by decide)]
        exact m2
      · rw [gA_sA, if_neg (by decide), gA_self, u_self]
        rfl
      · rw [gA_self]
        exact u_self
      · have q : ln (xT s) (wa (xT s) R r 0) = 0 := q
        omega
    · have q4 : (Int32.ofInt ((rM (xT s) r : Nat) : Int) = Int32.ofInt ((now : Nat) : Int)) = False := by rw [ii_eq (by omega) (by omega)]; exact eq_false (by omega)
      simp -implicitDefEqProofs only [zx_iconst, zx_bipush, zx_sipush, zx_lconst, zx_ldc, zx_ldcS, zx_ldc_w, zx_ldc2_w, zx_iload, zx_lload, zx_aload, zx_istore_n, zx_istore, zx_lstore_n, zx_lstore, zx_astore_n, zx_astore, zx_iinc, zx_iadd, zx_isub, zx_imul, zx_iand, zx_ior, zx_ixor, zx_ishl, zx_ishr, zx_iushr, zx_idiv, zx_irem, zx_ineg, zx_ladd, zx_lsub, zx_land, zx_lor, zx_lxor, zx_lneg, zx_lshl, zx_lushr, zx_i2l, zx_l2i, zx_lcmp, zx_dup, zx_dup2, zx_pop, zx_goto, zx_if_eq, zx_if_ne, zx_if_lt, zx_if_ge, zx_if_gt, zx_if_le, zx_icmp_eq, zx_icmp_ne, zx_icmp_lt, zx_icmp_ge, zx_icmp_gt, zx_icmp_le, zx_getfield, zx_putfield, zx_iaload, zx_laload, zx_aaload, zx_iastore, zx_lastore, zx_arraylength, zx_ireturn, zx_lreturn, zx_areturn, zx_return, zx_athrow, zx_static0, zx_static1, zx_virt1, zx_static2, zx_virt2, zx_static3, zx_virt3, zx_static4, zx_virt4, zx_static5, zx_virt5, zx_static6, zx_virt6, zx_static7, zx_virt7, zx_cpI, zx_cpL, ↓cpI, ↓cpL, zx_slen, zx_schr, zx_tsw, zx_spec3, new_X, zx_new1, zrun_nil, zrun_cons, ↓zgi_h, ↓zgi_n, ↓zgl_h, ↓zgl_n, ↓zgr_h, ↓zgr_n, zset1, zset2, zins_nil, zins_c, f3, cat_i, cat_l, cat_r, List.filter_cons, List.filter_nil, Bool.false_eq_true, l_of0, lv_args, Nat.reduceBEq, Nat.reduceAdd, Nat.reduceLeDiff, Nat.reduceLT, Bool.not_true, Bool.not_false, Bool.and_true, Bool.true_and, Bool.and_false, Bool.false_and, Nat.reduceEqDiff, reduceIte, List.contains_cons, List.contains_nil, Bool.or_false, Bool.or_true, Bool.false_or, Bool.true_or, Fin.isValue, Fin.val_zero, Fin.val_one, Fin.val_two, Fin.reduceFinMk, Option.toList_some, Option.toList_none, List.nil_append, List.cons_append, zwt_nil, zwt_i, zwt_l, zwt_r, zthr_nil, List.isEmpty_nil, zcE, ↓ar_k, lgc0, true_and, and_true, true_implies, implies_true, false_implies, forall_const, i_len, ob_0, ob_1, ↓bI_01, bI_0, not_true_eq_false, not_false_eq_true, Bool.not_eq_false, Bool.not_eq_true, ia_add, ia_sub, ia_mul, ia_neg, ↓ldI, ↓ldL, zaI_c, zaL_c, ↓zlen_I, ↓zlen_L, ↓stI, ↓stL, gD_sI, gN_sI, gI_sI, gJ_sI, gR_sI, gA_sI, gB_sI, gT_sI, gD_sJ, gN_sJ, gI_sJ, gJ_sJ, gR_sJ, gA_sJ, gB_sJ, gT_sJ, gD_sR, gN_sR, gI_sR, gJ_sR, gR_sR, gA_sR, gB_sR, gT_sR, gD_sA, gN_sA, gI_sA, gJ_sA, gR_sA, gA_sA, gB_sA, gT_sA, gD_sB, gN_sB, gI_sB, gJ_sB, gR_sB, gA_sB, gB_sB, gT_sB, zx_il0, zx_il1, zx_il2, zx_il3, zx_ll0, zx_ll1, zx_ll2, zx_ll3, zx_al0, zx_al1, zx_al2, zx_al3, e_has, e_bA, e_mn, e_mx, e_pcI, e_pcL, e_low, tc0, tc1, tc2, tc3, vc0_2, vc1_2, vc0_3, vc1_3, vc2_3, vc0_4, vc1_4, vc2_4, vc3_4, m_in, i10, i20, i00, i11, true_or, false_or, Bool.true_eq_false, eq_self, zml_260, zg260_0, zb260_0, zg260_19, zb260_19, zg260_20, zb260_20, zg260_46, zb260_46, zg260_72, zb260_72, zg260_82, zb260_82, zg260_111, zb260_111, zmc_225, zms_225, zow_225, zhd_225, zmc_260, zms_260, zow_260, zhd_260, ↓gf_11_16, ↓gf_11_36, ↓gf_11_37, ↓gf_11_38, ↓gf_11_39, ↓gf_11_40, ↓gf_11_41, ↓gf_11_43, ↓gv_11, show ztg 16 4 = 20 from rfl, show ztg 27 45 = 72 from rfl, show ztg 42 4 = 46 from rfl, show ztg 6 13 = 19 from rfl, show ztg 78 4 = 82 from rfl, show ztg 98 13 = 111 from rfl, LM_d hLt, LM_r37 hLt, LM_k37 hLt, LM_n37 hLt, LM_r41 hLt, LM_k41 hLt, LM_n41 hLt, LM_r38 hLt, LM_k38 hLt, LM_n38 hLt, LM_r16 hLt, LM_k16 hLt, LM_n16 hLt, LM_r39 hLt, LM_k39 hLt, LM_n39 hLt, LM_r36 hLt, LM_k36 hLt, LM_n36 hLt, LM_r40 hLt, LM_k40 hLt, LM_n40 hLt, i_natN (a := r) (by omega), i_inT (a := ((r : Nat) : Int)) (n := 12) (by omega) (by omega), p1, q1, m1, q2, m4, q3, LM_p16 hLt r (by omega), LM_q16 hLt r (by omega), p3, e43, q4]
      refine same ?_
      unfold mv onw
      rw [if_neg (by omega), if_neg (fun q => by rw [Bool.and_eq_true, decide_eq_true_eq, decide_eq_true_eq] at q; exact q.1.1 c3)]
  · have q3 : (Int32.ofInt (rO (z r)) = Int32.ofInt (-1)) = False := by rw [ii_eq (by omega) (by omega)]; exact eq_false c3
    have k3 := j3 c3
    obtain ⟨m6, m7⟩ := m5 c3
    have ow : onw (xT s) R r (z r) = true := by
      unfold onw
      rw [decide_eq_true c3, decide_eq_true no]
      rfl
    by_cases c4 : rG (z r) = 0
    · rw [c4] at m6
      simp -implicitDefEqProofs only [zx_iconst, zx_bipush, zx_sipush, zx_lconst, zx_ldc, zx_ldcS, zx_ldc_w, zx_ldc2_w, zx_iload, zx_lload, zx_aload, zx_istore_n, zx_istore, zx_lstore_n, zx_lstore, zx_astore_n, zx_astore, zx_iinc, zx_iadd, zx_isub, zx_imul, zx_iand, zx_ior, zx_ixor, zx_ishl, zx_ishr, zx_iushr, zx_idiv, zx_irem, zx_ineg, zx_ladd, zx_lsub, zx_land, zx_lor, zx_lxor, zx_lneg, zx_lshl, zx_lushr, zx_i2l, zx_l2i, zx_lcmp, zx_dup, zx_dup2, zx_pop, zx_goto, zx_if_eq, zx_if_ne, zx_if_lt, zx_if_ge, zx_if_gt, zx_if_le, zx_icmp_eq, zx_icmp_ne, zx_icmp_lt, zx_icmp_ge, zx_icmp_gt, zx_icmp_le, zx_getfield, zx_putfield, zx_iaload, zx_laload, zx_aaload, zx_iastore, zx_lastore, zx_arraylength, zx_ireturn, zx_lreturn, zx_areturn, zx_return, zx_athrow, zx_static0, zx_static1, zx_virt1, zx_static2, zx_virt2, zx_static3, zx_virt3, zx_static4, zx_virt4, zx_static5, zx_virt5, zx_static6, zx_virt6, zx_static7, zx_virt7, zx_cpI, zx_cpL, ↓cpI, ↓cpL, zx_slen, zx_schr, zx_tsw, zx_spec3, new_X, zx_new1, zrun_nil, zrun_cons, ↓zgi_h, ↓zgi_n, ↓zgl_h, ↓zgl_n, ↓zgr_h, ↓zgr_n, zset1, zset2, zins_nil, zins_c, f3, cat_i, cat_l, cat_r, List.filter_cons, List.filter_nil, Bool.false_eq_true, l_of0, lv_args, Nat.reduceBEq, Nat.reduceAdd, Nat.reduceLeDiff, Nat.reduceLT, Bool.not_true, Bool.not_false, Bool.and_true, Bool.true_and, Bool.and_false, Bool.false_and, Nat.reduceEqDiff, reduceIte, List.contains_cons, List.contains_nil, Bool.or_false, Bool.or_true, Bool.false_or, Bool.true_or, Fin.isValue, Fin.val_zero, Fin.val_one, Fin.val_two, Fin.reduceFinMk, Option.toList_some, Option.toList_none, List.nil_append, List.cons_append, zwt_nil, zwt_i, zwt_l, zwt_r, zthr_nil, List.isEmpty_nil, zcE, ↓ar_k, lgc0, true_and, and_true, true_implies, implies_true, false_implies, forall_const, i_len, ob_0, ob_1, ↓bI_01, bI_0, not_true_eq_false, not_false_eq_true, Bool.not_eq_false, Bool.not_eq_true, ia_add, ia_sub, ia_mul, ia_neg, ↓ldI, ↓ldL, zaI_c, zaL_c, ↓zlen_I, ↓zlen_L, ↓stI, ↓stL, gD_sI, gN_sI, gI_sI, gJ_sI, gR_sI, gA_sI, gB_sI, gT_sI, gD_sJ, gN_sJ, gI_sJ, gJ_sJ, gR_sJ, gA_sJ, gB_sJ, gT_sJ, gD_sR, gN_sR, gI_sR, gJ_sR, gR_sR, gA_sR, gB_sR, gT_sR, gD_sA, gN_sA, gI_sA, gJ_sA, gR_sA, gA_sA, gB_sA, gT_sA, gD_sB, gN_sB, gI_sB, gJ_sB, gR_sB, gA_sB, gB_sB, gT_sB, zx_il0, zx_il1, zx_il2, zx_il3, zx_ll0, zx_ll1, zx_ll2, zx_ll3, zx_al0, zx_al1, zx_al2, zx_al3, e_has, e_bA, e_mn, e_mx, e_pcI, e_pcL, e_low, tc0, tc1, tc2, tc3, vc0_2, vc1_2, vc0_3, vc1_3, vc2_3, vc0_4, vc1_4, vc2_4, vc3_4, m_in, i10, i20, i00, i11, true_or, false_or, Bool.true_eq_false, eq_self, zml_260, zg260_0, zb260_0, zg260_19, zb260_19, zg260_20, zb260_20, zg260_46, zb260_46, zg260_72, zb260_72, zg260_82, zb260_82, zg260_111, zb260_111, zmc_225, zms_225, zow_225, zhd_225, zmc_260, zms_260, zow_260, zhd_260, ↓gf_11_16, ↓gf_11_36, ↓gf_11_37, ↓gf_11_38, ↓gf_11_39, ↓gf_11_40, ↓gf_11_41, ↓gf_11_43, ↓gv_11, show ztg 16 4 = 20 from rfl, show ztg 27 45 = 72 from rfl, show ztg 42 4 = 46 from rfl, show ztg 6 13 = 19 from rfl, show ztg 78 4 = 82 from rfl, show ztg 98 13 = 111 from rfl, LM_d hLt, LM_r37 hLt, LM_k37 hLt, LM_n37 hLt, LM_r41 hLt, LM_k41 hLt, LM_n41 hLt, LM_r38 hLt, LM_k38 hLt, LM_n38 hLt, LM_r16 hLt, LM_k16 hLt, LM_n16 hLt, LM_r39 hLt, LM_k39 hLt, LM_n39 hLt, LM_r36 hLt, LM_k36 hLt, LM_n36 hLt, LM_r40 hLt, LM_k40 hLt, LM_n40 hLt, i_natN (a := r) (by omega), i_inT (a := ((r : Nat) : Int)) (n := 12) (by omega) (by omega), p1, q1, m1, q2, m4, q3, m6, show (Int32.ofInt ((0 : Nat) : Int) = 0) = True from eq_true rfl]
      refine same ?_
      unfold mv
      rw [if_neg (by omega), if_neg (by omega)]
    · have q4 : (Int32.ofInt ((rG (z r) : Nat) : Int) = 0) = False := by rw [ii_eq0 (by omega)]; exact eq_false (by omega)
      have e : mv (xT s) R now z r = (rO (z r), rG (z r) - 1, now, rH (z r), rW (z r)) := by
        unfold mv
        rw [if_neg (by omega), if_pos ⟨ow, by omega⟩]
      have x2 := RX_A (q := 1207) (f := upd (gA τ 1207) r (Int32.ofInt ((rG (z r) : Int) - 1))) hwf hx (by omega)
      simp -implicitDefEqProofs only [zx_iconst, zx_bipush, zx_sipush, zx_lconst, zx_ldc, zx_ldcS, zx_ldc_w, zx_ldc2_w, zx_iload, zx_lload, zx_aload, zx_istore_n, zx_istore, zx_lstore_n, zx_lstore, zx_astore_n, zx_astore, zx_iinc, zx_iadd, zx_isub, zx_imul, zx_iand, zx_ior, zx_ixor, zx_ishl, zx_ishr, zx_iushr, zx_idiv, zx_irem, zx_ineg, zx_ladd, zx_lsub, zx_land, zx_lor, zx_lxor, zx_lneg, zx_lshl, zx_lushr, zx_i2l, zx_l2i, zx_lcmp, zx_dup, zx_dup2, zx_pop, zx_goto, zx_if_eq, zx_if_ne, zx_if_lt, zx_if_ge, zx_if_gt, zx_if_le, zx_icmp_eq, zx_icmp_ne, zx_icmp_lt, zx_icmp_ge, zx_icmp_gt, zx_icmp_le, zx_getfield, zx_putfield, zx_iaload, zx_laload, zx_aaload, zx_iastore, zx_lastore, zx_arraylength, zx_ireturn, zx_lreturn, zx_areturn, zx_return, zx_athrow, zx_static0, zx_static1, zx_virt1, zx_static2, zx_virt2, zx_static3, zx_virt3, zx_static4, zx_virt4, zx_static5, zx_virt5, zx_static6, zx_virt6, zx_static7, zx_virt7, zx_cpI, zx_cpL, ↓cpI, ↓cpL, zx_slen, zx_schr, zx_tsw, zx_spec3, new_X, zx_new1, zrun_nil, zrun_cons, ↓zgi_h, ↓zgi_n, ↓zgl_h, ↓zgl_n, ↓zgr_h, ↓zgr_n, zset1, zset2, zins_nil, zins_c, f3, cat_i, cat_l, cat_r, List.filter_cons, List.filter_nil, Bool.false_eq_true, l_of0, lv_args, Nat.reduceBEq, Nat.reduceAdd, Nat.reduceLeDiff, Nat.reduceLT, Bool.not_true, Bool.not_false, Bool.and_true, Bool.true_and, Bool.and_false, Bool.false_and, Nat.reduceEqDiff, reduceIte, List.contains_cons, List.contains_nil, Bool.or_false, Bool.or_true, Bool.false_or, Bool.true_or, Fin.isValue, Fin.val_zero, Fin.val_one, Fin.val_two, Fin.reduceFinMk, Option.toList_some, Option.toList_none, List.nil_append, List.cons_append, zwt_nil, zwt_i, zwt_l, zwt_r, zthr_nil, List.isEmpty_nil, zcE, ↓ar_k, lgc0, true_and, and_true, true_implies, implies_true, false_implies, forall_const, i_len, ob_0, ob_1, ↓bI_01, bI_0, not_true_eq_false, not_false_eq_true, Bool.not_eq_false, Bool.not_eq_true, ia_add, ia_sub, ia_mul, ia_neg, ↓ldI, ↓ldL, zaI_c, zaL_c, ↓zlen_I, ↓zlen_L, ↓stI, ↓stL, gD_sI, gN_sI, gI_sI, gJ_sI, gR_sI, gA_sI, gB_sI, gT_sI, gD_sJ, gN_sJ, gI_sJ, gJ_sJ, gR_sJ, gA_sJ, gB_sJ, gT_sJ, gD_sR, gN_sR, gI_sR, gJ_sR, gR_sR, gA_sR, gB_sR, gT_sR, gD_sA, gN_sA, gI_sA, gJ_sA, gR_sA, gA_sA, gB_sA, gT_sA, gD_sB, gN_sB, gI_sB, gJ_sB, gR_sB, gA_sB, gB_sB, gT_sB, zx_il0, zx_il1, zx_il2, zx_il3, zx_ll0, zx_ll1, zx_ll2, zx_ll3, zx_al0, zx_al1, zx_al2, zx_al3, e_has, e_bA, e_mn, e_mx, e_pcI, e_pcL, e_low, tc0, tc1, tc2, tc3, vc0_2, vc1_2, vc0_3, vc1_3, vc2_3, vc0_4, vc1_4, vc2_4, vc3_4, m_in, i10, i20, i00, i11, true_or, false_or, Bool.true_eq_false, eq_self, zml_260, zg260_0, zb260_0, zg260_19, zb260_19, zg260_20, zb260_20, zg260_46, zb260_46, zg260_72, zb260_72, zg260_82, zb260_82, zg260_111, zb260_111, zmc_225, zms_225, zow_225, zhd_225, zmc_260, zms_260, zow_260, zhd_260, ↓gf_11_16, ↓gf_11_36, ↓gf_11_37, ↓gf_11_38, ↓gf_11_39, ↓gf_11_40, ↓gf_11_41, ↓gf_11_43, ↓gv_11, show ztg 16 4 = 20 from rfl, show ztg 27 45 = 72 from rfl, show ztg 42 4 = 46 from rfl, show ztg 6 13 = 19 from rfl, show ztg 78 4 = 82 from rfl, show ztg 98 13 = 111 from rfl, LM_d hLt, LM_r37 hLt, LM_k37 hLt, LM_n37 hLt, LM_r41 hLt, LM_k41 hLt, LM_n41 hLt, LM_r38 hLt, LM_k38 hLt, LM_n38 hLt, LM_r16 hLt, LM_k16 hLt, LM_n16 hLt, LM_r39 hLt, LM_k39 hLt, LM_n39 hLt, LM_r36 hLt, LM_k36 hLt, LM_n36 hLt, LM_r40 hLt, LM_k40 hLt, LM_n40 hLt, i_natN (a := r) (by omega), i_inT (a := ((r : Nat) : Int)) (n := 12) (by omega) (by omega), p1, q1, m1, q2, m4, q3, m6, q4, e43, u_self, gA_self]
      try simp (disch := omega) only [ii_lt, ii_le, ii_eq, ii_eq0, ii_lt0, ii_0lt, ii_le0, ii_0le, i_inT, i_natN, i_nat, ia_div, ia_rem, hs_ofI, i_1shl, i_or, i_bit, true_and, and_true, not_true_eq_false, not_false_eq_true, true_implies, false_implies, implies_true, Int.reduceLT, Int.reduceLE, Int.reduceEq, Int.reduceNeg, Int.toNat_natCast, Int.reduceToNat, Nat.reduceLeDiff, Nat.reduceAdd, tn_2, tn_2p, tn_48, tn_48r, tn_3, tn_3p, tn_3q, tn_p1, tn_d2, tn_12, ia_add, ia_sub, ia_mul]
      refine ⟨fun z5 => ?_, fun z5 => ?_⟩
      · refine hQ _ x2 ?_ (fun q zz hq k => MR_A k hq)
        rw [e]
        refine ⟨?_, ?_, fun _ => ⟨?_, fun _ => ⟨?_, fun q => ?_⟩⟩⟩
        · rw [gA_sA, if_neg (by decide)]
          exact m1
        · rw [gA_sA, if_neg (by decide)]
          exact m2
        · rw [gA_sA, if_neg (by decide)]
          exact m4
        · rw [gA_self, u_self]
          show _ = Int32.ofInt ((rG (z r) - 1 : Nat) : Int)
          rw [show ((rG (z r) - 1 : Nat) : Int) = (rG (z r) : Int) - 1 from by omega]
        · have q : rG (z r) - 1 = 0 := q
          omega
      · have x3 := RX_A (q := 1208) (f := upd (gA τ 1208) r (Int32.ofInt now)) hwf x2 (by omega)
        refine hQ _ x3 ?_ (fun q zz hq k => MR_A (MR_A k hq) hq)
        rw [e]
        refine ⟨?_, ?_, fun _ => ⟨?_, fun _ => ⟨?_, fun q => ?_⟩⟩⟩
        · rw [gA_sA, if_neg (by decide), gA_sA, if_neg (by decide)]
          exact m1
        · rw [gA_sA, if_neg (by decide), gA_sA, if_neg (by decide)]
          exact m2
        · rw [gA_sA, if_neg (by decide), gA_sA, if_neg (by decide)]
          exact m4
        · rw [gA_sA, if_neg (by decide), gA_self, u_self]
          show _ = Int32.ofInt ((rG (z r) - 1 : Nat) : Int)
          rw [show ((rG (z r) - 1 : Nat) : Int) = (rG (z r) : Int) - 1 from by omega]
        · rw [gA_self, u_self]
          rfl
