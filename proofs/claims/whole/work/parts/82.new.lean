/-! CONSTRUCTORS: an object under construction lies over the store -/
def nB (s : zS) (n : Nat) : zS := (fun b => if b = gT s then 2 else gD s b, fun b => if b = gT s then n else gN s b, gI s, gJ s, gR s, gA s, fun b => if b = gT s then fun _ => 0 else gB s b, gT s + 1)
def uc (s : zS) (q c : Nat) (vs : List Value) : zH := (fun i => if i = q then .inr (c + 1, vs) else cel s i, gT s)
theorem new_B {s : zS} {n : Nat} : znew (hOf s) (.inl (1, n, .inr (.inl (fun _ => 0)))) = hOf (nB s n) := by
  refine zH_ext (fun a => ?_) rfl
  show (if a = gT s then _ else cel s a) = cel (nB s n) a
  by_cases e : a = gT s
  · rw [if_pos e]
    have h1 : gD (nB s n) a = 2 := by
      show (if a = gT s then 2 else gD s a) = _
      rw [if_pos e]
    have h2 : gN (nB s n) a = n := by
      show (if a = gT s then n else gN s a) = _
      rw [if_pos e]
    have h3 : gB (nB s n) a = fun _ => 0 := by
      show (if a = gT s then fun _ => 0 else gB s a) = _
      rw [if_pos e]
    rw [cel_L h1, h2, h3]
  · rw [if_neg e]
    have h1 : gD (nB s n) a = gD s a := by
      show (if a = gT s then 2 else gD s a) = _
      rw [if_neg e]
    have h2 : gN (nB s n) a = gN s a := by
      show (if a = gT s then n else gN s a) = _
      rw [if_neg e]
    have h3 : gB (nB s n) a = gB s a := by
      show (if a = gT s then fun _ => 0 else gB s a) = _
      rw [if_neg e]
    unfold cel
    rw [h1, h2, h3]
    rfl
theorem uc_new {s s2 : zS} {q c : Nat} {vs : List Value} {x : zC} (hq : q < gT s) (e : znew (hOf s) x = hOf s2) : znew (uc s q c vs) x = uc s2 q c vs := by
  have e1 : ∀ a, (if a = gT s then x else cel s a) = cel s2 a := fun a => congrFun (congrArg Prod.fst e) a
  have e2 : gT s + 1 = gT s2 := congrArg Prod.snd e
  refine zH_ext (fun a => ?_) e2
  show (if a = gT s then x else if a = q then _ else cel s a) = (if a = q then _ else cel s2 a)
  rw [← e1 a]
  by_cases c1 : a = q
  · rw [if_pos c1, if_pos c1, if_neg (by omega)]
  · rw [if_neg c1, if_neg c1]
theorem uc_ob {s : zS} {q c : Nat} {vs : List Value} {F : List Value → Prop} : zob ((uc s q c vs).1 q) c F = F vs := by
  have e : (uc s q c vs).1 q = .inr (c + 1, vs) := if_pos rfl
  rw [e]
  apply propext
  exact ⟨fun z => z.2, fun z => ⟨rfl, z⟩⟩
theorem uc_up {s : zS} {q c : Nat} {vs ws : List Value} : zup (uc s q c vs) q (.inr (c + 1, ws)) = uc s q c ws := by
  refine zH_ext (fun a => ?_) rfl
  show (if a = q then _ else if a = q then _ else cel s a) = (if a = q then _ else cel s a)
  by_cases c1 : a = q
  · rw [if_pos c1, if_pos c1]
  · rw [if_neg c1, if_neg c1, if_neg c1]
theorem lt_nA {s : zS} {q n : Nat} (h : q < gT s) : (q < gT (nA s n)) = True := eq_true (Nat.lt_succ_of_lt h)
theorem lt_nB {s : zS} {q n : Nat} (h : q < gT s) : (q < gT (nB s n)) = True := eq_true (Nat.lt_succ_of_lt h)
theorem zx_ucA {P : Nat → zM} {C : Nat → List Value → zH → zQ → Prop} {k : Nat} {J : Nat → zK} {Q : zQ} {K : zK} {pc len a b : Nat} {d : Int} {L : zL} {S : List Value} {s : zS} {kc ks q c : Nat} {vs : List Value} {n : Int32} (hq : q < gT s) : zstp P C k J Q (pc, .newarray .int, len, a, b, d) K L (.int n :: S) (uc s q c vs) kc ks = (¬ n < 0 ∧ n.toNatClampNeg ≤ 1000000 ∧ kc + 1 ≤ zmc (P k) ∧ ks + n.toNatClampNeg ≤ zms (P k) ∧ K L (.ref (gT s) :: S) (uc (nA s n.toNatClampNeg) q c vs) (kc + 1) (ks + n.toNatClampNeg)) := by
  rw [← uc_new hq new_A]
  rfl
theorem zx_ucB {P : Nat → zM} {C : Nat → List Value → zH → zQ → Prop} {k : Nat} {J : Nat → zK} {Q : zQ} {K : zK} {pc len a b : Nat} {d : Int} {L : zL} {S : List Value} {s : zS} {kc ks q c : Nat} {vs : List Value} {n : Int32} (hq : q < gT s) : zstp P C k J Q (pc, .newarray .long, len, a, b, d) K L (.int n :: S) (uc s q c vs) kc ks = (¬ n < 0 ∧ n.toNatClampNeg ≤ 1000000 ∧ kc + 1 ≤ zmc (P k) ∧ ks + n.toNatClampNeg ≤ zms (P k) ∧ K L (.ref (gT s) :: S) (uc (nB s n.toNatClampNeg) q c vs) (kc + 1) (ks + n.toNatClampNeg)) := by
  rw [← uc_new hq new_B]
  rfl
theorem u_new6 {s : zS} {q : Nat} {Q : zQ} (hq : q < gT s) (h16 : 16 ≤ q) : zW zP 6 [.ref q] (uc s q 6 (zdfs 6)) Q := by
  rw [zWE]
  simp -implicitDefEqProofs only [zx_iconst, zx_bipush, zx_sipush, zx_lconst, zx_ldc, zx_ldcS, zx_ldc_w, zx_ldc2_w, zx_iload, zx_lload, zx_aload, zx_istore_n, zx_istore, zx_lstore_n, zx_lstore, zx_astore_n, zx_astore, zx_iinc, zx_iadd, zx_isub, zx_imul, zx_iand, zx_ior, zx_ixor, zx_ishl, zx_ishr, zx_iushr, zx_idiv, zx_irem, zx_ineg, zx_ladd, zx_lsub, zx_land, zx_lor, zx_lxor, zx_lneg, zx_lshl, zx_lushr, zx_i2l, zx_l2i, zx_lcmp, zx_dup, zx_dup2, zx_pop, zx_goto, zx_if_eq, zx_if_ne, zx_if_lt, zx_if_ge, zx_if_gt, zx_if_le, zx_icmp_eq, zx_icmp_ne, zx_icmp_lt, zx_icmp_ge, zx_icmp_gt, zx_icmp_le, zx_getfield, zx_putfield, zx_iaload, zx_laload, zx_aaload, zx_iastore, zx_lastore, zx_arraylength, zx_ireturn, zx_lreturn, zx_areturn, zx_return, zx_athrow, zx_static0, zx_static1, zx_virt1, zx_static2, zx_virt2, zx_static3, zx_virt3, zx_static4, zx_virt4, zx_static5, zx_virt5, zx_static6, zx_virt6, zx_static7, zx_virt7, zx_cpI, zx_cpL, ↓cpI, ↓cpL, zx_slen, zx_schr, zx_tsw, zx_spec3, new_X, zx_new1, zrun_nil, zrun_cons, ↓zgi_h, ↓zgi_n, ↓zgl_h, ↓zgl_n, ↓zgr_h, ↓zgr_n, zset1, zset2, zins_nil, zins_c, f3, cat_i, cat_l, cat_r, List.filter_cons, List.filter_nil, Bool.false_eq_true, l_of0, lv_args, Nat.reduceBEq, Nat.reduceAdd, Nat.reduceLeDiff, Nat.reduceLT, Bool.not_true, Bool.not_false, Bool.and_true, Bool.true_and, Bool.and_false, Bool.false_and, Nat.reduceEqDiff, reduceIte, List.contains_cons, List.contains_nil, Bool.or_false, Bool.or_true, Bool.false_or, Bool.true_or, Fin.isValue, Fin.val_zero, Fin.val_one, Fin.val_two, Fin.reduceFinMk, Option.toList_some, Option.toList_none, List.nil_append, List.cons_append, zwt_nil, zwt_i, zwt_l, zwt_r, zthr_nil, List.isEmpty_nil, zcE, ↓ar_k, lgc0, true_and, and_true, true_implies, implies_true, false_implies, forall_const, i_len, ob_0, ob_1, ↓bI_01, bI_0, not_true_eq_false, not_false_eq_true, Bool.not_eq_false, Bool.not_eq_true, ia_add, ia_sub, ia_mul, ia_neg, ↓ldI, ↓ldL, zaI_c, zaL_c, ↓zlen_I, ↓zlen_L, ↓stI, ↓stL, gD_sI, gN_sI, gI_sI, gJ_sI, gR_sI, gA_sI, gB_sI, gT_sI, gD_sJ, gN_sJ, gI_sJ, gJ_sJ, gR_sJ, gA_sJ, gB_sJ, gT_sJ, gD_sR, gN_sR, gI_sR, gJ_sR, gR_sR, gA_sR, gB_sR, gT_sR, gD_sA, gN_sA, gI_sA, gJ_sA, gR_sA, gA_sA, gB_sA, gT_sA, gD_sB, gN_sB, gI_sB, gJ_sB, gR_sB, gA_sB, gB_sB, gT_sB, zx_il0, zx_il1, zx_il2, zx_il3, zx_ll0, zx_ll1, zx_ll2, zx_ll3, zx_al0, zx_al1, zx_al2, zx_al3, e_has, e_bA, e_mn, e_mx, e_pcI, e_pcL, e_low, zml_6, zg6_0, zb6_0, zmc_6, zms_6, zow_6, zhd_6, ↓pp_6_0, ↓pp_6_1, ↓pp_6_2, ↓pq_6_0, ↓pq_6_1, ↓pq_6_2, ↓pw_6_0, ↓pw_6_1, ↓pw_6_2, show (Int8.ofInt 24).toInt32 = Int32.ofInt 24 from rfl, show (Int8.ofInt 48).toInt32 = Int32.ofInt 48 from rfl, zx_ucA, zx_ucB, uc_ob, uc_up, lt_nA, lt_nB, hq]
  exact (trivial : True)
