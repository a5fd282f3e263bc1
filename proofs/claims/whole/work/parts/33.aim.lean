/-! the class's search of shortest rides -/
def DI (T : Tw) (R : Nat → Nat → Bool) (c i : Nat) (op : Int64) (v : Nat → Nat) : Prop := (∀ a, bt op a = true → isA T a = true) ∧ (∀ a, a < 48 → v a ≤ 268435456 ∧ (v a < 268435456 → isA T a = true ∧ v a ≤ 99 * (i + 1) ∧ ∃ n, wk T R c n a (v a))) ∧ (∀ a, isA T a = true → bt op a = false → v a < 268435456 ∧ ∀ n d, wk T R c n a d → v a ≤ d) ∧ (∀ a, bt op a = true → (en T a = c → v a ≤ ln T a) ∧ ∀ p, isA T p = true → bt op p = false → R a p = true → v a ≤ ln T a + v p)
theorem wk_A {T : Tw} {R : Nat → Nat → Bool} {c : Nat} (hR : ∀ a b, R a b = true → isA T a = true ∧ isA T b = true) : ∀ n a d, wk T R c n a d → isA T a = true
  | 0, _, _, h => h.1
  | _ + 1, a, _, ⟨b, _, h, _⟩ => (hR a b h).1
theorem DI_exact {T : Tw} {R : Nat → Nat → Bool} {c i m : Nat} {op : Int64} {v : Nat → Nat} (hR : ∀ a b, R a b = true → isA T a = true ∧ isA T b = true) (h : DI T R c i op v) (hmin : ∀ a, bt op a = true → v m ≤ v a) : ∀ n a d, bt op a = true → wk T R c n a d → v m ≤ d := by
  intro n
  induction n with
  | zero =>
    intro a d ha hk
    have h1 := (h.2.2.2 a ha).1 hk.2.1
    have h2 := hmin a ha
    have h3 := hk.2.2
    omega
  | succ n ih =>
    intro a d ha ⟨b, e, h1, h2, h3⟩
    cases hb : bt op b with
    | true =>
      have := ih b e hb h2
      omega
    | false =>
      have hbA := (hR a b h1).2
      have k1 := (h.2.2.2 a ha).2 b hbA hb h1
      have k2 := (h.2.2.1 b hbA hb).2 n e h2
      have k3 := hmin a ha
      omega
theorem DI_step {T : Tw} {R : Nat → Nat → Bool} {c i m : Nat} {op op2 : Int64} {v : Nat → Nat} (hw : wf T) (hR : ∀ a b, R a b = true → isA T a = true ∧ isA T b = true) (h : DI T R c i op v) (hi : i < 48) (hm : bt op m = true) (hmf : v m < 268435456) (hmin : ∀ a, bt op a = true → v m ≤ v a) (ho : ∀ a, bt op2 a = (bt op a && decide (a ≠ m))) : DI T R c (i + 1) op2 (fun a => if bt op2 a = true ∧ R a m = true then min (v a) (ln T a + v m) else v a) := by
  have h24 := hw.2.1
  have mA := h.1 m hm
  have mL := isA_lt mA
  have vm := (h.2.1 m (by omega)).2 hmf
  have om : bt op2 m = false := by
    rw [ho, decide_eq_false (by simp), Bool.and_false]
  have vmm : (if bt op2 m = true ∧ R m m = true then min (v m) (ln T m + v m) else v m) = v m := by
    rw [if_neg]
    intro z
    rw [om] at z
    cases z.1
  refine ⟨?_, ?_, ?_, ?_⟩
  · intro a ha
    rw [ho, Bool.and_eq_true] at ha
    exact h.1 a ha.1
  · intro a ha
    have k := h.2.1 a ha
    dsimp only
    by_cases c1 : bt op2 a = true ∧ R a m = true
    · rw [if_pos c1]
      have aA := (hR a m c1.2).1
      have al := (wf_bg hw (isA_lt aA)).2.2.2.2
      by_cases c2 : v a ≤ ln T a + v m
      · rw [Nat.min_eq_left c2]
        refine ⟨k.1, fun z => ⟨aA, by have := (k.2 z).2.1; omega, (k.2 z).2.2⟩⟩
      · rw [Nat.min_eq_right (by omega)]
        obtain ⟨n, hn⟩ := vm.2.2
        exact ⟨by omega, fun _ => ⟨aA, by omega, n + 1, m, v m, c1.2, hn, rfl⟩⟩
    · rw [if_neg c1]
      exact ⟨k.1, fun z => ⟨(k.2 z).1, by have := (k.2 z).2.1; omega, (k.2 z).2.2⟩⟩
  · intro a aA ha
    show (if bt op2 a = true ∧ R a m = true then min (v a) (ln T a + v m) else v a) < 268435456 ∧ ∀ n d, wk T R c n a d → (if bt op2 a = true ∧ R a m = true then min (v a) (ln T a + v m) else v a) ≤ d
    rw [if_neg (fun z => by rw [ha] at z; cases z.1)]
    by_cases e : a = m
    · subst e
      exact ⟨hmf, fun n d hk => DI_exact hR h hmin n a d hm hk⟩
    · rw [ho, decide_eq_true e, Bool.and_true] at ha
      exact h.2.2.1 a aA ha
  · intro a ha
    have ha2 := ha
    rw [ho, Bool.and_eq_true, decide_eq_true_eq] at ha2
    have k := h.2.2.2 a ha2.1
    show (en T a = c → (if bt op2 a = true ∧ R a m = true then min (v a) (ln T a + v m) else v a) ≤ ln T a) ∧ ∀ p, isA T p = true → bt op2 p = false → R a p = true → (if bt op2 a = true ∧ R a m = true then min (v a) (ln T a + v m) else v a) ≤ ln T a + (if bt op2 p = true ∧ R p m = true then min (v p) (ln T p + v m) else v p)
    refine ⟨fun hc => ?_, fun p pA hp hap => ?_⟩
    · have := k.1 hc
      split <;> omega
    · rw [if_neg (c := bt op2 p = true ∧ R p m = true) (fun z => by rw [hp] at z; cases z.1)]
      by_cases e : p = m
      · subst e
        rw [if_pos ⟨ha, hap⟩]
        omega
      · rw [ho, decide_eq_true e, Bool.and_true] at hp
        have := k.2 p pA hp hap
        split <;> omega
theorem DI_end {T : Tw} {R : Nat → Nat → Bool} {c i : Nat} {op : Int64} {v : Nat → Nat} (hw : wf T) (hi : i ≤ 48) (hR : ∀ a b, R a b = true → isA T a = true ∧ isA T b = true) (h : DI T R c i op v) (he : ∀ a, bt op a = true → 268435456 ≤ v a) : (∀ a, a < 48 → v a = fr 268435456 (sd T R c a)) ∧ ∀ a d, sd T R c a = some d → d ≤ 4851 := by
  have h24 := hw.2.1
  have no : ∀ n a d, bt op a = true → ¬ wk T R c n a d := by
    intro n
    induction n with
    | zero =>
      intro a d ha hk
      have h1 := (h.2.2.2 a ha).1 hk.2.1
      have h2 := he a ha
      have := (wf_bg hw (isA_lt (h.1 a ha))).2.2.2.2
      omega
    | succ n ih =>
      intro a d ha ⟨b, e, h1, h2, h3⟩
      cases hb : bt op b with
      | true => exact ih b e hb h2
      | false =>
        have hbA := (hR a b h1).2
        have k1 := (h.2.2.2 a ha).2 b hbA hb h1
        have k2 := (h.2.1 b (by have := isA_lt hbA; omega)).2 (h.2.2.1 b hbA hb).1
        have k3 := he a ha
        have := (wf_bg hw (isA_lt (h.1 a ha))).2.2.2.2
        omega
  have ex : ∀ a, isA T a = true → bt op a = false → sd T R c a = some (v a) := by
    intro a aA ha
    rw [sd_some]
    have k := h.2.2.1 a aA ha
    exact ⟨((h.2.1 a (by have := isA_lt aA; omega)).2 k.1).2.2, k.2⟩
  have nn : ∀ a, (isA T a = false ∨ bt op a = true) → sd T R c a = none := by
    intro a ha
    rw [sd_none]
    intro n d hk
    rcases ha with ha | ha
    · rw [wk_A hR n a d hk] at ha
      cases ha
    · exact no n a d ha hk
  refine ⟨fun a ha => ?_, fun a d hs => ?_⟩
  · cases aA : isA T a with
    | false =>
      rw [nn a (.inl aA)]
      show v a = 268435456
      have k := h.2.1 a ha
      have : ¬ v a < 268435456 := by
        intro z
        have := (k.2 z).1
        rw [aA] at this
        cases this
      omega
    | true =>
      cases hb : bt op a with
      | true =>
        rw [nn a (.inr hb)]
        show v a = 268435456
        have k := h.2.1 a ha
        have := he a hb
        omega
      | false =>
        rw [ex a aA hb]
        rfl
  · cases aA : isA T a with
    | false =>
      rw [nn a (.inl aA)] at hs
      cases hs
    | true =>
      cases hb : bt op a with
      | true =>
        rw [nn a (.inr hb)] at hs
        cases hs
      | false =>
        rw [ex a aA hb] at hs
        cases hs
        have := ((h.2.1 a (by have := isA_lt aA; omega)).2 (h.2.2.1 a aA hb).1).2.1
        omega
theorem u_aim {σ : zS} {t q c : Nat} {T : Tw} {R : Nat → Nat → Bool} {Q : zQ} (h : CT σ t T) (hw : wf T) (hS : CS σ t T) (hr : LRoutes σ) (hd : gD σ q = 2) (hn : gN σ q = 48) (hR : NX (gB σ q) T R) (hE : ∀ a b, R a b = true → en T a = bg T b) (hc : c < nC T) (hQ : ∀ f : Nat → Int32, (∀ a, a < 48 → f a = Int32.ofInt (fr 268435456 (sd T R c a))) → (∀ a d, sd T R c a = some d → d ≤ 4851) → Q (.inl none) (hOf (sA (sI σ 56 2 (Int32.ofInt c)) 58 f))) : zW zP 44 [.ref 56, .ref t, .ref q, .int (Int32.ofInt c)] (hOf σ) Q := by
  have ht := CT_t h
  have h24 := hw.2.1
  have h16 := hw.1
  rw [zWE]
  simp only [zx_iconst, zx_bipush, zx_sipush, zx_lconst, zx_ldc, zx_ldcS, zx_ldc_w, zx_ldc2_w, zx_iload, zx_lload, zx_aload, zx_istore_n, zx_istore, zx_lstore_n, zx_lstore, zx_astore_n, zx_astore, zx_iinc, zx_iadd, zx_isub, zx_imul, zx_iand, zx_ior, zx_ixor, zx_ishl, zx_ishr, zx_iushr, zx_idiv, zx_irem, zx_ineg, zx_ladd, zx_lsub, zx_land, zx_lor, zx_lxor, zx_lneg, zx_lshl, zx_lushr, zx_i2l, zx_l2i, zx_lcmp, zx_dup, zx_dup2, zx_pop, zx_goto, zx_if_eq, zx_if_ne, zx_if_lt, zx_if_ge, zx_if_gt, zx_if_le, zx_icmp_eq, zx_icmp_ne, zx_icmp_lt, zx_icmp_ge, zx_icmp_gt, zx_icmp_le, zx_getfield, zx_putfield, zx_iaload, zx_laload, zx_aaload, zx_iastore, zx_lastore, zx_arraylength, zx_ireturn, zx_lreturn, zx_areturn, zx_return, zx_athrow, zx_static0, zx_static1, zx_virt1, zx_static2, zx_virt2, zx_static3, zx_virt3, zx_static4, zx_virt4, zx_static5, zx_virt5, zx_static6, zx_virt6, zx_static7, zx_virt7, zx_cpI, zx_cpL, ↓cpI, ↓cpL, zx_slen, zx_schr, zx_tsw, zx_spec3, new_X, zx_new1, zrun_nil, zrun_cons, ↓zgi_h, ↓zgi_n, ↓zgl_h, ↓zgl_n, ↓zgr_h, ↓zgr_n, zset1, zset2, zins_nil, zins_c, f3, cat_i, cat_l, cat_r, List.filter_cons, List.filter_nil, Bool.false_eq_true, l_of0, lv_args, Nat.reduceBEq, Nat.reduceAdd, Nat.reduceLeDiff, Nat.reduceLT, Bool.not_true, Bool.not_false, Bool.and_true, Bool.true_and, Bool.and_false, Bool.false_and, Nat.reduceEqDiff, reduceIte, List.contains_cons, List.contains_nil, Bool.or_false, Bool.or_true, Bool.false_or, Bool.true_or, Fin.isValue, Fin.val_zero, Fin.val_one, Fin.val_two, Fin.reduceFinMk, Option.toList_some, Option.toList_none, List.nil_append, List.cons_append, zwt_nil, zwt_i, zwt_l, zwt_r, zthr_nil, List.isEmpty_nil, zcE, ↓ar_k, lgc0, true_and, and_true, true_implies, implies_true, false_implies, forall_const, i_len, ob_0, ob_1, ↓bI_01, bI_0, not_true_eq_false, not_false_eq_true, Bool.not_eq_false, Bool.not_eq_true, ia_add, ia_sub, ia_mul, ia_neg, ↓ldI, ↓ldL, zaI_c, zaL_c, ↓zlen_I, ↓zlen_L, ↓stI, ↓stL, gD_sI, gN_sI, gI_sI, gJ_sI, gR_sI, gA_sI, gB_sI, gT_sI, gD_sJ, gN_sJ, gI_sJ, gJ_sJ, gR_sJ, gA_sJ, gB_sJ, gT_sJ, gD_sR, gN_sR, gI_sR, gJ_sR, gR_sR, gA_sR, gB_sR, gT_sR, gD_sA, gN_sA, gI_sA, gJ_sA, gR_sA, gA_sA, gB_sA, gT_sA, gD_sB, gN_sB, gI_sB, gJ_sB, gR_sB, gA_sB, gB_sB, gT_sB, zx_il0, zx_il1, zx_il2, zx_il3, zx_ll0, zx_ll1, zx_ll2, zx_ll3, zx_al0, zx_al1, zx_al2, zx_al3, e_has, e_bA, e_mn, e_mx, e_pcI, e_pcL, e_low, zml_44, zg44_0, zb44_0, zb44_14, zg44_51, zb44_51, zg44_53, zb44_53, zg44_60, zb44_60, zb44_63, zg44_86, zb44_86, zg44_115, zb44_115, zmc_40, zms_40, zow_40, zhd_40, zmc_43, zms_43, zow_43, zhd_43, zmc_44, zms_44, zow_44, zhd_44, zmc_31, zms_31, zow_31, zhd_31, ↓gf_5_1, ↓gf_8_10, ↓gf_8_15, ↓gf_8_5, ↓gv_5, ↓pp_5_2, show (Int8.ofInt 48).toInt32 = Int32.ofInt 48 from rfl, show ztg 112 (-49) = 63 from rfl, show ztg 18 42 = 60 from rfl, show ztg 38 13 = 51 from rfl, show ztg 48 5 = 53 from rfl, show ztg 57 (-43) = 14 from rfl, show ztg 67 48 = 115 from rfl, show ztg 82 4 = 86 from rfl, LTown_g (CT_L h), LTown_d (CT_L h), LTown_r6 (CT_L h), LTown_k6 (CT_L h), LTown_n6 (CT_L h), LTown_r7 (CT_L h), LTown_k7 (CT_L h), LTown_n7 (CT_L h), LTown_r8 (CT_L h), LTown_k8 (CT_L h), LTown_n8 (CT_L h), LTown_r9 (CT_L h), LTown_k9 (CT_L h), LTown_n9 (CT_L h), LTown_r10 (CT_L h), LTown_k10 (CT_L h), LTown_n10 (CT_L h), LTown_r11 (CT_L h), LTown_k11 (CT_L h), LTown_n11 (CT_L h), LTown_r12 (CT_L h), LTown_k12 (CT_L h), LTown_n12 (CT_L h), LTown_r13 (CT_L h), LTown_k13 (CT_L h), LTown_n13 (CT_L h), LTown_r14 (CT_L h), LTown_k14 (CT_L h), LTown_n14 (CT_L h), LTown_r15 (CT_L h), LTown_k15 (CT_L h), LTown_n15 (CT_L h), LTown_r16 (CT_L h), LTown_k16 (CT_L h), LTown_n16 (CT_L h), LTown_r17 (CT_L h), LTown_k17 (CT_L h), LTown_n17 (CT_L h), LTown_r18 (CT_L h), LTown_k18 (CT_L h), LTown_n18 (CT_L h), LRoutes_d hr, LRoutes_r0 hr, LRoutes_k0 hr, LRoutes_n0 hr, LRoutes_r1 hr, LRoutes_k1 hr, LRoutes_n1 hr, eq_false (show ¬ t = 56 from by omega)]
  have smf : ∀ f : Nat → Int32, ∀ k, k ≤ 13 → sm σ (sA (sI σ 56 2 (Int32.ofInt c)) 58 f) (t + k) := fun f k hk => sm_trans (sm_sI (by omega)) (sm_sA (by omega))
  have key2 : ∀ i : Nat, i ≤ 48 → ∀ (op : Int64) (v : Nat → Nat) (f : Nat → Int32), DI T R c i op v → cp (bt op) 48 + i ≤ 48 → (∀ a, a < 48 → f a = Int32.ofInt (v a)) → zfp zP (zcall zP 44) 44 Q 63 [(0, .ref 56), (1, .ref t), (2, .ref q), (4, .long op), (6, .int (Int32.ofInt i))] [] (hOf (sA (sI σ 56 2 (Int32.ofInt c)) 58 f)) 0 0 := by
    refine bk 48 ?_
    intro i hi ih op v f hD hcp hf
    have CT2 := CT_sm h (smf f)
    have CS2 := CS_sm hS (smf f)
    have fin : (∀ a, bt op a = true → 268435456 ≤ v a) → Q (.inl none) (hOf (sA (sI σ 56 2 (Int32.ofInt c)) 58 f)) := by
      intro he
      obtain ⟨k1, k2⟩ := DI_end hw hi hR.2 hD he
      exact hQ f (fun a ha => by rw [hf a ha, k1 a ha]) k2
    rw [zg44_63]
    simp only [zx_iconst, zx_bipush, zx_sipush, zx_lconst, zx_ldc, zx_ldcS, zx_ldc_w, zx_ldc2_w, zx_iload, zx_lload, zx_aload, zx_istore_n, zx_istore, zx_lstore_n, zx_lstore, zx_astore_n, zx_astore, zx_iinc, zx_iadd, zx_isub, zx_imul, zx_iand, zx_ior, zx_ixor, zx_ishl, zx_ishr, zx_iushr, zx_idiv, zx_irem, zx_ineg, zx_ladd, zx_lsub, zx_land, zx_lor, zx_lxor, zx_lneg, zx_lshl, zx_lushr, zx_i2l, zx_l2i, zx_lcmp, zx_dup, zx_dup2, zx_pop, zx_goto, zx_if_eq, zx_if_ne, zx_if_lt, zx_if_ge, zx_if_gt, zx_if_le, zx_icmp_eq, zx_icmp_ne, zx_icmp_lt, zx_icmp_ge, zx_icmp_gt, zx_icmp_le, zx_getfield, zx_putfield, zx_iaload, zx_laload, zx_aaload, zx_iastore, zx_lastore, zx_arraylength, zx_ireturn, zx_lreturn, zx_areturn, zx_return, zx_athrow, zx_static0, zx_static1, zx_virt1, zx_static2, zx_virt2, zx_static3, zx_virt3, zx_static4, zx_virt4, zx_static5, zx_virt5, zx_static6, zx_virt6, zx_static7, zx_virt7, zx_cpI, zx_cpL, ↓cpI, ↓cpL, zx_slen, zx_schr, zx_tsw, zx_spec3, new_X, zx_new1, zrun_nil, zrun_cons, ↓zgi_h, ↓zgi_n, ↓zgl_h, ↓zgl_n, ↓zgr_h, ↓zgr_n, zset1, zset2, zins_nil, zins_c, f3, cat_i, cat_l, cat_r, List.filter_cons, List.filter_nil, Bool.false_eq_true, l_of0, lv_args, Nat.reduceBEq, Nat.reduceAdd, Nat.reduceLeDiff, Nat.reduceLT, Bool.not_true, Bool.not_false, Bool.and_true, Bool.true_and, Bool.and_false, Bool.false_and, Nat.reduceEqDiff, reduceIte, List.contains_cons, List.contains_nil, Bool.or_false, Bool.or_true, Bool.false_or, Bool.true_or, Fin.isValue, Fin.val_zero, Fin.val_one, Fin.val_two, Fin.reduceFinMk, Option.toList_some, Option.toList_none, List.nil_append, List.cons_append, zwt_nil, zwt_i, zwt_l, zwt_r, zthr_nil, List.isEmpty_nil, zcE, ↓ar_k, lgc0, true_and, and_true, true_implies, implies_true, false_implies, forall_const, i_len, ob_0, ob_1, ↓bI_01, bI_0, not_true_eq_false, not_false_eq_true, Bool.not_eq_false, Bool.not_eq_true, ia_add, ia_sub, ia_mul, ia_neg, ↓ldI, ↓ldL, zaI_c, zaL_c, ↓zlen_I, ↓zlen_L, ↓stI, ↓stL, gD_sI, gN_sI, gI_sI, gJ_sI, gR_sI, gA_sI, gB_sI, gT_sI, gD_sJ, gN_sJ, gI_sJ, gJ_sJ, gR_sJ, gA_sJ, gB_sJ, gT_sJ, gD_sR, gN_sR, gI_sR, gJ_sR, gR_sR, gA_sR, gB_sR, gT_sR, gD_sA, gN_sA, gI_sA, gJ_sA, gR_sA, gA_sA, gB_sA, gT_sA, gD_sB, gN_sB, gI_sB, gJ_sB, gR_sB, gA_sB, gB_sB, gT_sB, zx_il0, zx_il1, zx_il2, zx_il3, zx_ll0, zx_ll1, zx_ll2, zx_ll3, zx_al0, zx_al1, zx_al2, zx_al3, e_has, e_bA, e_mn, e_mx, e_pcI, e_pcL, e_low, zml_44, zg44_0, zb44_0, zb44_14, zg44_51, zb44_51, zg44_53, zb44_53, zg44_60, zb44_60, zb44_63, zg44_86, zb44_86, zg44_115, zb44_115, zmc_40, zms_40, zow_40, zhd_40, zmc_43, zms_43, zow_43, zhd_43, zmc_44, zms_44, zow_44, zhd_44, zmc_31, zms_31, zow_31, zhd_31, ↓gf_5_1, ↓gf_8_10, ↓gf_8_15, ↓gf_8_5, ↓gv_5, ↓pp_5_2, show (Int8.ofInt 48).toInt32 = Int32.ofInt 48 from rfl, show ztg 112 (-49) = 63 from rfl, show ztg 18 42 = 60 from rfl, show ztg 38 13 = 51 from rfl, show ztg 48 5 = 53 from rfl, show ztg 57 (-43) = 14 from rfl, show ztg 67 48 = 115 from rfl, show ztg 82 4 = 86 from rfl, LTown_g (CT_L h), LTown_d (CT_L h), LTown_r6 (CT_L h), LTown_k6 (CT_L h), LTown_n6 (CT_L h), LTown_r7 (CT_L h), LTown_k7 (CT_L h), LTown_n7 (CT_L h), LTown_r8 (CT_L h), LTown_k8 (CT_L h), LTown_n8 (CT_L h), LTown_r9 (CT_L h), LTown_k9 (CT_L h), LTown_n9 (CT_L h), LTown_r10 (CT_L h), LTown_k10 (CT_L h), LTown_n10 (CT_L h), LTown_r11 (CT_L h), LTown_k11 (CT_L h), LTown_n11 (CT_L h), LTown_r12 (CT_L h), LTown_k12 (CT_L h), LTown_n12 (CT_L h), LTown_r13 (CT_L h), LTown_k13 (CT_L h), LTown_n13 (CT_L h), LTown_r14 (CT_L h), LTown_k14 (CT_L h), LTown_n14 (CT_L h), LTown_r15 (CT_L h), LTown_k15 (CT_L h), LTown_n15 (CT_L h), LTown_r16 (CT_L h), LTown_k16 (CT_L h), LTown_n16 (CT_L h), LTown_r17 (CT_L h), LTown_k17 (CT_L h), LTown_n17 (CT_L h), LTown_r18 (CT_L h), LTown_k18 (CT_L h), LTown_n18 (CT_L h), LRoutes_d hr, LRoutes_r0 hr, LRoutes_k0 hr, LRoutes_n0 hr, LRoutes_r1 hr, LRoutes_k1 hr, LRoutes_n1 hr]
    try simp (disch := omega) only [ii_lt, ii_le, ii_eq, ii_eq0, ii_lt0, ii_0lt, ii_le0, ii_0le, i_inT, i_natN, i_nat, ia_div, ia_rem, hs_ofI, i_1shl, i_or, i_bit, true_and, and_true, not_true_eq_false, not_false_eq_true, true_implies, false_implies, implies_true, Int.reduceLT, Int.reduceLE, Int.reduceEq, Int.reduceNeg, Int.toNat_natCast, Int.reduceToNat, Nat.reduceLeDiff, Nat.reduceAdd, tn_2, tn_2p, tn_48, tn_48r, tn_3, tn_3p, tn_3q, tn_p1, tn_d2, tn_12]
    refine ⟨fun c1 => fin (fun a ha => ?_), fun c1 => ?_⟩
    · have := cp_pos 48 a (by have := isA_lt (hD.1 a ha); omega) ha
      omega
    · refine u_nearest CT2 hw hr (v := v) (fun a ha => ⟨hf a ha, (hD.2.1 a ha).1⟩) (fun hno => ?_) (fun m hm1 hm2 hm3 hm4 => ?_)
      · simp only [zx_iconst, zx_bipush, zx_sipush, zx_lconst, zx_ldc, zx_ldcS, zx_ldc_w, zx_ldc2_w, zx_iload, zx_lload, zx_aload, zx_istore_n, zx_istore, zx_lstore_n, zx_lstore, zx_astore_n, zx_astore, zx_iinc, zx_iadd, zx_isub, zx_imul, zx_iand, zx_ior, zx_ixor, zx_ishl, zx_ishr, zx_iushr, zx_idiv, zx_irem, zx_ineg, zx_ladd, zx_lsub, zx_land, zx_lor, zx_lxor, zx_lneg, zx_lshl, zx_lushr, zx_i2l, zx_l2i, zx_lcmp, zx_dup, zx_dup2, zx_pop, zx_goto, zx_if_eq, zx_if_ne, zx_if_lt, zx_if_ge, zx_if_gt, zx_if_le, zx_icmp_eq, zx_icmp_ne, zx_icmp_lt, zx_icmp_ge, zx_icmp_gt, zx_icmp_le, zx_getfield, zx_putfield, zx_iaload, zx_laload, zx_aaload, zx_iastore, zx_lastore, zx_arraylength, zx_ireturn, zx_lreturn, zx_areturn, zx_return, zx_athrow, zx_static0, zx_static1, zx_virt1, zx_static2, zx_virt2, zx_static3, zx_virt3, zx_static4, zx_virt4, zx_static5, zx_virt5, zx_static6, zx_virt6, zx_static7, zx_virt7, zx_cpI, zx_cpL, ↓cpI, ↓cpL, zx_slen, zx_schr, zx_tsw, zx_spec3, new_X, zx_new1, zrun_nil, zrun_cons, ↓zgi_h, ↓zgi_n, ↓zgl_h, ↓zgl_n, ↓zgr_h, ↓zgr_n, zset1, zset2, zins_nil, zins_c, f3, cat_i, cat_l, cat_r, List.filter_cons, List.filter_nil, Bool.false_eq_true, l_of0, lv_args, Nat.reduceBEq, Nat.reduceAdd, Nat.reduceLeDiff, Nat.reduceLT, Bool.not_true, Bool.not_false, Bool.and_true, Bool.true_and, Bool.and_false, Bool.false_and, Nat.reduceEqDiff, reduceIte, List.contains_cons, List.contains_nil, Bool.or_false, Bool.or_true, Bool.false_or, Bool.true_or, Fin.isValue, Fin.val_zero, Fin.val_one, Fin.val_two, Fin.reduceFinMk, Option.toList_some, Option.toList_none, List.nil_append, List.cons_append, zwt_nil, zwt_i, zwt_l, zwt_r, zthr_nil, List.isEmpty_nil, zcE, ↓ar_k, lgc0, true_and, and_true, true_implies, implies_true, false_implies, forall_const, i_len, ob_0, ob_1, ↓bI_01, bI_0, not_true_eq_false, not_false_eq_true, Bool.not_eq_false, Bool.not_eq_true, ia_add, ia_sub, ia_mul, ia_neg, ↓ldI, ↓ldL, zaI_c, zaL_c, ↓zlen_I, ↓zlen_L, ↓stI, ↓stL, gD_sI, gN_sI, gI_sI, gJ_sI, gR_sI, gA_sI, gB_sI, gT_sI, gD_sJ, gN_sJ, gI_sJ, gJ_sJ, gR_sJ, gA_sJ, gB_sJ, gT_sJ, gD_sR, gN_sR, gI_sR, gJ_sR, gR_sR, gA_sR, gB_sR, gT_sR, gD_sA, gN_sA, gI_sA, gJ_sA, gR_sA, gA_sA, gB_sA, gT_sA, gD_sB, gN_sB, gI_sB, gJ_sB, gR_sB, gA_sB, gB_sB, gT_sB, zx_il0, zx_il1, zx_il2, zx_il3, zx_ll0, zx_ll1, zx_ll2, zx_ll3, zx_al0, zx_al1, zx_al2, zx_al3, e_has, e_bA, e_mn, e_mx, e_pcI, e_pcL, e_low, zml_44, zg44_0, zb44_0, zb44_14, zg44_51, zb44_51, zg44_53, zb44_53, zg44_60, zb44_60, zb44_63, zg44_86, zb44_86, zg44_115, zb44_115, zmc_40, zms_40, zow_40, zhd_40, zmc_43, zms_43, zow_43, zhd_43, zmc_44, zms_44, zow_44, zhd_44, zmc_31, zms_31, zow_31, zhd_31, ↓gf_5_1, ↓gf_8_10, ↓gf_8_15, ↓gf_8_5, ↓gv_5, ↓pp_5_2, show (Int8.ofInt 48).toInt32 = Int32.ofInt 48 from rfl, show ztg 112 (-49) = 63 from rfl, show ztg 18 42 = 60 from rfl, show ztg 38 13 = 51 from rfl, show ztg 48 5 = 53 from rfl, show ztg 57 (-43) = 14 from rfl, show ztg 67 48 = 115 from rfl, show ztg 82 4 = 86 from rfl, LRoutes_d hr, LRoutes_r0 hr, LRoutes_k0 hr, LRoutes_n0 hr, LRoutes_r1 hr, LRoutes_k1 hr, LRoutes_n1 hr]
        exact fin (fun a ha => hno a (by have := isA_lt (hD.1 a ha); omega) ha)
      · simp only [zx_iconst, zx_bipush, zx_sipush, zx_lconst, zx_ldc, zx_ldcS, zx_ldc_w, zx_ldc2_w, zx_iload, zx_lload, zx_aload, zx_istore_n, zx_istore, zx_lstore_n, zx_lstore, zx_astore_n, zx_astore, zx_iinc, zx_iadd, zx_isub, zx_imul, zx_iand, zx_ior, zx_ixor, zx_ishl, zx_ishr, zx_iushr, zx_idiv, zx_irem, zx_ineg, zx_ladd, zx_lsub, zx_land, zx_lor, zx_lxor, zx_lneg, zx_lshl, zx_lushr, zx_i2l, zx_l2i, zx_lcmp, zx_dup, zx_dup2, zx_pop, zx_goto, zx_if_eq, zx_if_ne, zx_if_lt, zx_if_ge, zx_if_gt, zx_if_le, zx_icmp_eq, zx_icmp_ne, zx_icmp_lt, zx_icmp_ge, zx_icmp_gt, zx_icmp_le, zx_getfield, zx_putfield, zx_iaload, zx_laload, zx_aaload, zx_iastore, zx_lastore, zx_arraylength, zx_ireturn, zx_lreturn, zx_areturn, zx_return, zx_athrow, zx_static0, zx_static1, zx_virt1, zx_static2, zx_virt2, zx_static3, zx_virt3, zx_static4, zx_virt4, zx_static5, zx_virt5, zx_static6, zx_virt6, zx_static7, zx_virt7, zx_cpI, zx_cpL, ↓cpI, ↓cpL, zx_slen, zx_schr, zx_tsw, zx_spec3, new_X, zx_new1, zrun_nil, zrun_cons, ↓zgi_h, ↓zgi_n, ↓zgl_h, ↓zgl_n, ↓zgr_h, ↓zgr_n, zset1, zset2, zins_nil, zins_c, f3, cat_i, cat_l, cat_r, List.filter_cons, List.filter_nil, Bool.false_eq_true, l_of0, lv_args, Nat.reduceBEq, Nat.reduceAdd, Nat.reduceLeDiff, Nat.reduceLT, Bool.not_true, Bool.not_false, Bool.and_true, Bool.true_and, Bool.and_false, Bool.false_and, Nat.reduceEqDiff, reduceIte, List.contains_cons, List.contains_nil, Bool.or_false, Bool.or_true, Bool.false_or, Bool.true_or, Fin.isValue, Fin.val_zero, Fin.val_one, Fin.val_two, Fin.reduceFinMk, Option.toList_some, Option.toList_none, List.nil_append, List.cons_append, zwt_nil, zwt_i, zwt_l, zwt_r, zthr_nil, List.isEmpty_nil, zcE, ↓ar_k, lgc0, true_and, and_true, true_implies, implies_true, false_implies, forall_const, i_len, ob_0, ob_1, ↓bI_01, bI_0, not_true_eq_false, not_false_eq_true, Bool.not_eq_false, Bool.not_eq_true, ia_add, ia_sub, ia_mul, ia_neg, ↓ldI, ↓ldL, zaI_c, zaL_c, ↓zlen_I, ↓zlen_L, ↓stI, ↓stL, gD_sI, gN_sI, gI_sI, gJ_sI, gR_sI, gA_sI, gB_sI, gT_sI, gD_sJ, gN_sJ, gI_sJ, gJ_sJ, gR_sJ, gA_sJ, gB_sJ, gT_sJ, gD_sR, gN_sR, gI_sR, gJ_sR, gR_sR, gA_sR, gB_sR, gT_sR, gD_sA, gN_sA, gI_sA, gJ_sA, gR_sA, gA_sA, gB_sA, gT_sA, gD_sB, gN_sB, gI_sB, gJ_sB, gR_sB, gA_sB, gB_sB, gT_sB, zx_il0, zx_il1, zx_il2, zx_il3, zx_ll0, zx_ll1, zx_ll2, zx_ll3, zx_al0, zx_al1, zx_al2, zx_al3, e_has, e_bA, e_mn, e_mx, e_pcI, e_pcL, e_low, zml_44, zg44_0, zb44_0, zb44_14, zg44_51, zb44_51, zg44_53, zb44_53, zg44_60, zb44_60, zb44_63, zg44_86, zb44_86, zg44_115, zb44_115, zmc_40, zms_40, zow_40, zhd_40, zmc_43, zms_43, zow_43, zhd_43, zmc_44, zms_44, zow_44, zhd_44, zmc_31, zms_31, zow_31, zhd_31, ↓gf_5_1, ↓gf_8_10, ↓gf_8_15, ↓gf_8_5, ↓gv_5, ↓pp_5_2, show (Int8.ofInt 48).toInt32 = Int32.ofInt 48 from rfl, show ztg 112 (-49) = 63 from rfl, show ztg 18 42 = 60 from rfl, show ztg 38 13 = 51 from rfl, show ztg 48 5 = 53 from rfl, show ztg 57 (-43) = 14 from rfl, show ztg 67 48 = 115 from rfl, show ztg 82 4 = 86 from rfl, LRoutes_d hr, LRoutes_r0 hr, LRoutes_k0 hr, LRoutes_n0 hr, LRoutes_r1 hr, LRoutes_k1 hr, LRoutes_n1 hr]
        try simp (disch := omega) only [ii_lt, ii_le, ii_eq, ii_eq0, ii_lt0, ii_0lt, ii_le0, ii_0le, i_inT, i_natN, i_nat, ia_div, ia_rem, hs_ofI, i_1shl, i_or, i_bit, true_and, and_true, not_true_eq_false, not_false_eq_true, true_implies, false_implies, implies_true, Int.reduceLT, Int.reduceLE, Int.reduceEq, Int.reduceNeg, Int.toNat_natCast, Int.reduceToNat, Nat.reduceLeDiff, Nat.reduceAdd, tn_2, tn_2p, tn_48, tn_48r, tn_3, tn_3p, tn_3q, tn_p1, tn_d2, tn_12]
        refine ⟨fun _ => ?_, fun z => by omega⟩
        have o2 : ∀ a, bt (op &&& (Int64.ofNat 1 <<< ((Int32.ofInt m).toInt64 &&& 63) ^^^ Int64.ofInt (-1))) a = (bt op a && decide (a ≠ m)) := by
          intro a
          rw [bt_andn, bt_one (by omega)]
          by_cases e : a = m
          · rw [decide_eq_true e, decide_eq_false (by simp [e])]
            rfl
          · rw [decide_eq_false e, decide_eq_true e]
            rfl
        generalize op &&& (Int64.ofNat 1 <<< ((Int32.ofInt m).toInt64 &&& 63) ^^^ Int64.ofInt (-1)) = op2 at o2 ⊢
        have hst := DI_step hw hR.2 hD (by omega) hm2 hm3 (fun a ha => hm4 a (by have := isA_lt (hD.1 a ha); omega) ha) o2
        refine u_spread CT2 hw CS2 hr hd hn hR hE (v := v) (fun a ha => ⟨hf a ha, (hD.2.1 a ha).1⟩) (hD.1 m hm2) (by rw [o2, decide_eq_false (by simp), Bool.and_false]) (fun g hg => ?_)
        simp only [zx_iconst, zx_bipush, zx_sipush, zx_lconst, zx_ldc, zx_ldcS, zx_ldc_w, zx_ldc2_w, zx_iload, zx_lload, zx_aload, zx_istore_n, zx_istore, zx_lstore_n, zx_lstore, zx_astore_n, zx_astore, zx_iinc, zx_iadd, zx_isub, zx_imul, zx_iand, zx_ior, zx_ixor, zx_ishl, zx_ishr, zx_iushr, zx_idiv, zx_irem, zx_ineg, zx_ladd, zx_lsub, zx_land, zx_lor, zx_lxor, zx_lneg, zx_lshl, zx_lushr, zx_i2l, zx_l2i, zx_lcmp, zx_dup, zx_dup2, zx_pop, zx_goto, zx_if_eq, zx_if_ne, zx_if_lt, zx_if_ge, zx_if_gt, zx_if_le, zx_icmp_eq, zx_icmp_ne, zx_icmp_lt, zx_icmp_ge, zx_icmp_gt, zx_icmp_le, zx_getfield, zx_putfield, zx_iaload, zx_laload, zx_aaload, zx_iastore, zx_lastore, zx_arraylength, zx_ireturn, zx_lreturn, zx_areturn, zx_return, zx_athrow, zx_static0, zx_static1, zx_virt1, zx_static2, zx_virt2, zx_static3, zx_virt3, zx_static4, zx_virt4, zx_static5, zx_virt5, zx_static6, zx_virt6, zx_static7, zx_virt7, zx_cpI, zx_cpL, ↓cpI, ↓cpL, zx_slen, zx_schr, zx_tsw, zx_spec3, new_X, zx_new1, zrun_nil, zrun_cons, ↓zgi_h, ↓zgi_n, ↓zgl_h, ↓zgl_n, ↓zgr_h, ↓zgr_n, zset1, zset2, zins_nil, zins_c, f3, cat_i, cat_l, cat_r, List.filter_cons, List.filter_nil, Bool.false_eq_true, l_of0, lv_args, Nat.reduceBEq, Nat.reduceAdd, Nat.reduceLeDiff, Nat.reduceLT, Bool.not_true, Bool.not_false, Bool.and_true, Bool.true_and, Bool.and_false, Bool.false_and, Nat.reduceEqDiff, reduceIte, List.contains_cons, List.contains_nil, Bool.or_false, Bool.or_true, Bool.false_or, Bool.true_or, Fin.isValue, Fin.val_zero, Fin.val_one, Fin.val_two, Fin.reduceFinMk, Option.toList_some, Option.toList_none, List.nil_append, List.cons_append, zwt_nil, zwt_i, zwt_l, zwt_r, zthr_nil, List.isEmpty_nil, zcE, ↓ar_k, lgc0, true_and, and_true, true_implies, implies_true, false_implies, forall_const, i_len, ob_0, ob_1, ↓bI_01, bI_0, not_true_eq_false, not_false_eq_true, Bool.not_eq_false, Bool.not_eq_true, ia_add, ia_sub, ia_mul, ia_neg, ↓ldI, ↓ldL, zaI_c, zaL_c, ↓zlen_I, ↓zlen_L, ↓stI, ↓stL, gD_sI, gN_sI, gI_sI, gJ_sI, gR_sI, gA_sI, gB_sI, gT_sI, gD_sJ, gN_sJ, gI_sJ, gJ_sJ, gR_sJ, gA_sJ, gB_sJ, gT_sJ, gD_sR, gN_sR, gI_sR, gJ_sR, gR_sR, gA_sR, gB_sR, gT_sR, gD_sA, gN_sA, gI_sA, gJ_sA, gR_sA, gA_sA, gB_sA, gT_sA, gD_sB, gN_sB, gI_sB, gJ_sB, gR_sB, gA_sB, gB_sB, gT_sB, zx_il0, zx_il1, zx_il2, zx_il3, zx_ll0, zx_ll1, zx_ll2, zx_ll3, zx_al0, zx_al1, zx_al2, zx_al3, e_has, e_bA, e_mn, e_mx, e_pcI, e_pcL, e_low, zml_44, zg44_0, zb44_0, zb44_14, zg44_51, zb44_51, zg44_53, zb44_53, zg44_60, zb44_60, zb44_63, zg44_86, zb44_86, zg44_115, zb44_115, zmc_40, zms_40, zow_40, zhd_40, zmc_43, zms_43, zow_43, zhd_43, zmc_44, zms_44, zow_44, zhd_44, zmc_31, zms_31, zow_31, zhd_31, ↓gf_5_1, ↓gf_8_10, ↓gf_8_15, ↓gf_8_5, ↓gv_5, ↓pp_5_2, show (Int8.ofInt 48).toInt32 = Int32.ofInt 48 from rfl, show ztg 112 (-49) = 63 from rfl, show ztg 18 42 = 60 from rfl, show ztg 38 13 = 51 from rfl, show ztg 48 5 = 53 from rfl, show ztg 57 (-43) = 14 from rfl, show ztg 67 48 = 115 from rfl, show ztg 82 4 = 86 from rfl, sA_sA]
        have c3 : cp (bt op) 48 = cp (bt op2) 48 + 1 := cp_rem 48 (by omega) hm2 o2
        exact zjf rfl (ih (by omega) op2 _ g hst (by omega) hg)
  have key1 : ∀ i : Nat, i ≤ 48 → ∀ f : Nat → Int32, (∀ a, a < i → f a = Int32.ofInt ((if isA T a = true ∧ en T a = c then ln T a else 268435456 : Nat) : Int)) → zfp zP (zcall zP 44) 44 Q 14 [(0, .ref 56), (1, .ref t), (2, .ref q), (3, .int (Int32.ofInt c)), (4, .long (gJ σ t 5)), (6, .int (Int32.ofInt i))] [] (hOf (sA (sI σ 56 2 (Int32.ofInt c)) 58 f)) 0 0 := by
    refine bk 48 ?_
    intro i hi ih f hf
    rw [zg44_14]
    simp only [zx_iconst, zx_bipush, zx_sipush, zx_lconst, zx_ldc, zx_ldcS, zx_ldc_w, zx_ldc2_w, zx_iload, zx_lload, zx_aload, zx_istore_n, zx_istore, zx_lstore_n, zx_lstore, zx_astore_n, zx_astore, zx_iinc, zx_iadd, zx_isub, zx_imul, zx_iand, zx_ior, zx_ixor, zx_ishl, zx_ishr, zx_iushr, zx_idiv, zx_irem, zx_ineg, zx_ladd, zx_lsub, zx_land, zx_lor, zx_lxor, zx_lneg, zx_lshl, zx_lushr, zx_i2l, zx_l2i, zx_lcmp, zx_dup, zx_dup2, zx_pop, zx_goto, zx_if_eq, zx_if_ne, zx_if_lt, zx_if_ge, zx_if_gt, zx_if_le, zx_icmp_eq, zx_icmp_ne, zx_icmp_lt, zx_icmp_ge, zx_icmp_gt, zx_icmp_le, zx_getfield, zx_putfield, zx_iaload, zx_laload, zx_aaload, zx_iastore, zx_lastore, zx_arraylength, zx_ireturn, zx_lreturn, zx_areturn, zx_return, zx_athrow, zx_static0, zx_static1, zx_virt1, zx_static2, zx_virt2, zx_static3, zx_virt3, zx_static4, zx_virt4, zx_static5, zx_virt5, zx_static6, zx_virt6, zx_static7, zx_virt7, zx_cpI, zx_cpL, ↓cpI, ↓cpL, zx_slen, zx_schr, zx_tsw, zx_spec3, new_X, zx_new1, zrun_nil, zrun_cons, ↓zgi_h, ↓zgi_n, ↓zgl_h, ↓zgl_n, ↓zgr_h, ↓zgr_n, zset1, zset2, zins_nil, zins_c, f3, cat_i, cat_l, cat_r, List.filter_cons, List.filter_nil, Bool.false_eq_true, l_of0, lv_args, Nat.reduceBEq, Nat.reduceAdd, Nat.reduceLeDiff, Nat.reduceLT, Bool.not_true, Bool.not_false, Bool.and_true, Bool.true_and, Bool.and_false, Bool.false_and, Nat.reduceEqDiff, reduceIte, List.contains_cons, List.contains_nil, Bool.or_false, Bool.or_true, Bool.false_or, Bool.true_or, Fin.isValue, Fin.val_zero, Fin.val_one, Fin.val_two, Fin.reduceFinMk, Option.toList_some, Option.toList_none, List.nil_append, List.cons_append, zwt_nil, zwt_i, zwt_l, zwt_r, zthr_nil, List.isEmpty_nil, zcE, ↓ar_k, lgc0, true_and, and_true, true_implies, implies_true, false_implies, forall_const, i_len, ob_0, ob_1, ↓bI_01, bI_0, not_true_eq_false, not_false_eq_true, Bool.not_eq_false, Bool.not_eq_true, ia_add, ia_sub, ia_mul, ia_neg, ↓ldI, ↓ldL, zaI_c, zaL_c, ↓zlen_I, ↓zlen_L, ↓stI, ↓stL, gD_sI, gN_sI, gI_sI, gJ_sI, gR_sI, gA_sI, gB_sI, gT_sI, gD_sJ, gN_sJ, gI_sJ, gJ_sJ, gR_sJ, gA_sJ, gB_sJ, gT_sJ, gD_sR, gN_sR, gI_sR, gJ_sR, gR_sR, gA_sR, gB_sR, gT_sR, gD_sA, gN_sA, gI_sA, gJ_sA, gR_sA, gA_sA, gB_sA, gT_sA, gD_sB, gN_sB, gI_sB, gJ_sB, gR_sB, gA_sB, gB_sB, gT_sB, zx_il0, zx_il1, zx_il2, zx_il3, zx_ll0, zx_ll1, zx_ll2, zx_ll3, zx_al0, zx_al1, zx_al2, zx_al3, e_has, e_bA, e_mn, e_mx, e_pcI, e_pcL, e_low, zml_44, zg44_0, zb44_0, zb44_14, zg44_51, zb44_51, zg44_53, zb44_53, zg44_60, zb44_60, zb44_63, zg44_86, zb44_86, zg44_115, zb44_115, zmc_40, zms_40, zow_40, zhd_40, zmc_43, zms_43, zow_43, zhd_43, zmc_44, zms_44, zow_44, zhd_44, zmc_31, zms_31, zow_31, zhd_31, ↓gf_5_1, ↓gf_8_10, ↓gf_8_15, ↓gf_8_5, ↓gv_5, ↓pp_5_2, show (Int8.ofInt 48).toInt32 = Int32.ofInt 48 from rfl, show ztg 112 (-49) = 63 from rfl, show ztg 18 42 = 60 from rfl, show ztg 38 13 = 51 from rfl, show ztg 48 5 = 53 from rfl, show ztg 57 (-43) = 14 from rfl, show ztg 67 48 = 115 from rfl, show ztg 82 4 = 86 from rfl, LTown_g (CT_L h), LTown_d (CT_L h), LTown_r6 (CT_L h), LTown_k6 (CT_L h), LTown_n6 (CT_L h), LTown_r7 (CT_L h), LTown_k7 (CT_L h), LTown_n7 (CT_L h), LTown_r8 (CT_L h), LTown_k8 (CT_L h), LTown_n8 (CT_L h), LTown_r9 (CT_L h), LTown_k9 (CT_L h), LTown_n9 (CT_L h), LTown_r10 (CT_L h), LTown_k10 (CT_L h), LTown_n10 (CT_L h), LTown_r11 (CT_L h), LTown_k11 (CT_L h), LTown_n11 (CT_L h), LTown_r12 (CT_L h), LTown_k12 (CT_L h), LTown_n12 (CT_L h), LTown_r13 (CT_L h), LTown_k13 (CT_L h), LTown_n13 (CT_L h), LTown_r14 (CT_L h), LTown_k14 (CT_L h), LTown_n14 (CT_L h), LTown_r15 (CT_L h), LTown_k15 (CT_L h), LTown_n15 (CT_L h), LTown_r16 (CT_L h), LTown_k16 (CT_L h), LTown_n16 (CT_L h), LTown_r17 (CT_L h), LTown_k17 (CT_L h), LTown_n17 (CT_L h), LTown_r18 (CT_L h), LTown_k18 (CT_L h), LTown_n18 (CT_L h), LRoutes_d hr, LRoutes_r0 hr, LRoutes_k0 hr, LRoutes_n0 hr, LRoutes_r1 hr, LRoutes_k1 hr, LRoutes_n1 hr, gA_self, sA_sA, eq_false (show ¬ t + 5 = 58 from by omega)]
    try simp (disch := omega) only [ii_lt, ii_le, ii_eq, ii_eq0, ii_lt0, ii_0lt, ii_le0, ii_0le, i_inT, i_natN, i_nat, ia_div, ia_rem, hs_ofI, i_1shl, i_or, i_bit, true_and, and_true, not_true_eq_false, not_false_eq_true, true_implies, false_implies, implies_true, Int.reduceLT, Int.reduceLE, Int.reduceEq, Int.reduceNeg, Int.toNat_natCast, Int.reduceToNat, Nat.reduceLeDiff, Nat.reduceAdd, tn_2, tn_2p, tn_48, tn_48r, tn_3, tn_3p, tn_3q, tn_p1, tn_d2, tn_12]
    refine ⟨fun c1 => ?_, fun c1 => ?_⟩
    · have hi48 : i = 48 := by omega
      subst hi48
      refine zjf rfl (key2 0 (by omega) (gJ σ t 5) (fun a => if isA T a = true ∧ en T a = c then ln T a else 268435456) f ⟨?_, ?_, ?_, ?_⟩ (by have := cp_le (p := bt (gJ σ t 5)) 48; omega) hf)
      · intro a ha
        rw [CT_5 h] at ha
        exact ha
      · intro a ha
        dsimp only
        by_cases e : isA T a = true ∧ en T a = c
        · rw [if_pos e]
          have := (wf_bg hw (isA_lt e.1)).2.2.2.2
          exact ⟨by omega, fun _ => ⟨e.1, by omega, 0, e.1, e.2, rfl⟩⟩
        · rw [if_neg e]
          exact ⟨by omega, fun z => by omega⟩
      · intro a aA ha
        rw [CT_5 h, aA] at ha
        cases ha
      · intro a ha
        rw [CT_5 h] at ha
        refine ⟨fun hc2 => ?_, fun p pA hp => ?_⟩
        · show (if isA T a = true ∧ en T a = c then ln T a else 268435456) ≤ _
          rw [if_pos ⟨ha, hc2⟩]
          exact Nat.le_refl _
        · rw [CT_5 h, pA] at hp
          cases hp
    · try simp (disch := omega) only [ii_lt, ii_le, ii_eq, ii_eq0, ii_lt0, ii_0lt, ii_le0, ii_0le, i_inT, i_natN, i_nat, ia_div, ia_rem, hs_ofI, i_1shl, i_or, i_bit, true_and, and_true, not_true_eq_false, not_false_eq_true, true_implies, false_implies, implies_true, Int.reduceLT, Int.reduceLE, Int.reduceEq, Int.reduceNeg, Int.toNat_natCast, Int.reduceToNat, Nat.reduceLeDiff, Nat.reduceAdd, tn_2, tn_2p, tn_48, tn_48r, tn_3, tn_3p, tn_3q, tn_p1, tn_d2, tn_12, hS.2.1 c (by omega)]
      refine ⟨fun c2 => ?_, fun c2 => ?_⟩
      · refine zjf rfl (ih (by omega) _ ?_)
        intro a ha
        show (if a = i then _ else _) = _
        by_cases e : a = i
        · rw [if_pos e, if_neg]
          · rfl
          · intro z
            rw [e] at z
            rw [z.1, decide_eq_true z.2] at c2
            cases c2
        · rw [if_neg e]
          exact hf a (by omega)
      · rw [Bool.and_eq_true, decide_eq_true_eq] at c2
        have hil := isA_lt c2.1
        try simp (disch := omega) only [ii_lt, ii_le, ii_eq, ii_eq0, ii_lt0, ii_0lt, ii_le0, ii_0le, i_inT, i_natN, i_nat, ia_div, ia_rem, hs_ofI, i_1shl, i_or, i_bit, true_and, and_true, not_true_eq_false, not_false_eq_true, true_implies, false_implies, implies_true, Int.reduceLT, Int.reduceLE, Int.reduceEq, Int.reduceNeg, Int.toNat_natCast, Int.reduceToNat, Nat.reduceLeDiff, Nat.reduceAdd, tn_2, tn_2p, tn_48, tn_48r, tn_3, tn_3p, tn_3q, tn_p1, tn_d2, tn_12, CT_l h i hil]
        refine zjf rfl (ih (by omega) _ ?_)
        intro a ha
        show (if a = i then _ else _) = _
        by_cases e : a = i
        · rw [if_pos e, if_pos (by rw [e]; exact c2), e]
        · rw [if_neg e]
          exact hf a (by omega)
  have := key1 0 (by omega) (gA σ 58) (fun a ha => by omega)
  rw [show sA (sI σ 56 2 (Int32.ofInt c)) 58 (gA σ 58) = sI σ 56 2 (Int32.ofInt c) from sA_same rfl] at this
  exact this
