/-! THE LEAST WAYS FROM ARC TO ARC -/
/-- the least of those: as a pair of halves -/
def ls (P : Nat → Prop) (o : Option Nat) : Prop := (∀ d, o = some d → P d) ∧ ∀ d, P d → ∃ e, o = some e ∧ e ≤ d
theorem ls_lw {P : Nat → Prop} {o : Option Nat} (h : ls P o) : lw P = o := by
  cases o with
  | none =>
    refine lw_none.2 (fun n hn => ?_)
    obtain ⟨e, h1, _⟩ := h.2 n hn
    cases h1
  | some d =>
    refine lw_some.2 ⟨h.1 d rfl, fun m hm hp => ?_⟩
    obtain ⟨e, h1, h2⟩ := h.2 m hp
    cases h1
    omega
theorem lw_ls {P : Nat → Prop} : ls P (lw P) := by
  refine ⟨fun d hd => (lw_some.1 hd).1, fun d hd => ?_⟩
  cases e : lw P with
  | none => exact absurd hd (lw_none.1 e d)
  | some m =>
    refine ⟨m, rfl, ?_⟩
    apply Classical.byContradiction
    intro hn
    exact (lw_some.1 e).2 d (by omega) hd
/-- from arc a to arc b by n arcs between, all below k; how long, without the first -/
def wi (T : Tw) (R : Nat → Nat → Bool) (k : Nat) : Nat → Nat → Nat → Nat → Prop
  | 0, a, b, d => R a b = true ∧ d = ln T b
  | n + 1, a, b, d => ∃ c e, c < k ∧ R a c = true ∧ wi T R k n c b e ∧ d = ln T c + e
noncomputable def mI (T : Tw) (R : Nat → Nat → Bool) (k a b : Nat) : Option Nat := lw (fun d => ∃ n, wi T R k n a b d)
theorem mI_ex {T : Tw} {R : Nat → Nat → Bool} {k n a b d : Nat} (h : wi T R k n a b d) : ∃ e, mI T R k a b = some e ∧ e ≤ d := lw_ls.2 d ⟨n, h⟩
theorem mI_wi {T : Tw} {R : Nat → Nat → Bool} {k a b d : Nat} (h : mI T R k a b = some d) : ∃ n, wi T R k n a b d := lw_ls.1 d h
theorem wi_mono {T : Tw} {R : Nat → Nat → Bool} {k k2 : Nat} (hk : k ≤ k2) : ∀ n a b d, wi T R k n a b d → wi T R k2 n a b d
  | 0, _, _, _, h => h
  | n + 1, a, b, d, ⟨c, e, h1, h2, h3, h4⟩ => ⟨c, e, by omega, h2, wi_mono hk n c b e h3, h4⟩
theorem wi_cat {T : Tw} {R : Nat → Nat → Bool} {k c b y m : Nat} (hc : c < k) (h2 : wi T R k m c b y) : ∀ n a x, wi T R k n a c x → wi T R k (n + m + 1) a b (x + y)
  | 0, a, x, h => by
    rw [Nat.zero_add]
    exact ⟨c, y, hc, h.1, h2, by rw [h.2]⟩
  | n + 1, a, x, ⟨c2, e, h1, h3, h4, h5⟩ => by
    rw [show n + 1 + m + 1 = (n + m + 1) + 1 from by omega]
    exact ⟨c2, e + y, h1, h3, wi_cat hc h2 n c2 e h4, by omega⟩
theorem mI_two {T : Tw} {R : Nat → Nat → Bool} {k b : Nat} : ∀ n a d, wi T R (k + 1) n a b d → (∃ x, mI T R k a b = some x ∧ x ≤ d) ∨ ∃ x y, mI T R k a k = some x ∧ mI T R k k b = some y ∧ x + y ≤ d := by
  intro n
  induction n with
  | zero =>
    intro a d h
    exact .inl (mI_ex (n := 0) h)
  | succ n ih =>
    intro a d ⟨c, e, h1, h2, h3, h4⟩
    by_cases hc : c = k
    · subst hc
      obtain ⟨x, x1, x2⟩ := mI_ex (T := T) (R := R) (k := c) (n := 0) (a := a) (b := c) (d := ln T c) ⟨h2, rfl⟩
      right
      rcases ih c e h3 with ⟨y, y1, y2⟩ | ⟨_, y, _, y1, y2⟩
      · exact ⟨x, y, x1, y1, by omega⟩
      · exact ⟨x, y, x1, y1, by omega⟩
    · rcases ih c e h3 with ⟨y, y1, y2⟩ | ⟨x, y, x1, y1, y2⟩
      · obtain ⟨m, hm⟩ := mI_wi y1
        obtain ⟨z, z1, z2⟩ := mI_ex (T := T) (R := R) (k := k) (n := m + 1) (a := a) (b := b) (d := ln T c + y) ⟨c, y, by omega, h2, hm, rfl⟩
        exact .inl ⟨z, z1, by omega⟩
      · obtain ⟨m, hm⟩ := mI_wi x1
        obtain ⟨z, z1, z2⟩ := mI_ex (T := T) (R := R) (k := k) (n := m + 1) (a := a) (b := k) (d := ln T c + x) ⟨c, x, by omega, h2, hm, rfl⟩
        exact .inr ⟨z, y, z1, y1, by omega⟩
theorem ol_s {a b : Option Nat} {d : Nat} (h : ol a b = some d) : a = some d ∨ b = some d := by
  cases a with
  | none => exact .inr h
  | some x =>
    cases b with
    | none => exact .inl h
    | some y =>
      have : d = min x y := (Option.some.inj h).symm
      rcases Nat.le_total x y with h1 | h1
      · exact .inl (by rw [this, Nat.min_eq_left h1])
      · exact .inr (by rw [this, Nat.min_eq_right h1])
theorem ol_le {a b : Option Nat} {x : Nat} (h : a = some x ∨ b = some x) : ∃ d, ol a b = some d ∧ d ≤ x := by
  cases a with
  | none =>
    rcases h with h | h
    · cases h
    · exact ⟨x, h, Nat.le_refl _⟩
  | some y =>
    cases b with
    | none =>
      rcases h with h | h
      · exact ⟨x, h, Nat.le_refl _⟩
      · cases h
    | some z =>
      refine ⟨min y z, rfl, ?_⟩
      rcases h with h | h
      · cases h
        omega
      · cases h
        omega
theorem mI_step {T : Tw} {R : Nat → Nat → Bool} {k a b : Nat} : mI T R (k + 1) a b = ol (mI T R k a b) (oa (mI T R k a k) (mI T R k k b)) := by
  refine ls_lw ⟨fun d hd => ?_, fun d ⟨n, hn⟩ => ?_⟩
  · rcases ol_s hd with h | h
    · obtain ⟨n, hn⟩ := mI_wi h
      exact ⟨n, wi_mono (by omega) _ _ _ _ hn⟩
    · obtain ⟨x, y, x1, y1, e⟩ := oa_ex h
      obtain ⟨n, hn⟩ := mI_wi x1
      obtain ⟨m, hm⟩ := mI_wi y1
      rw [e]
      exact ⟨_, wi_cat (k := k + 1) (by omega) (wi_mono (by omega) _ _ _ _ hm) n a x (wi_mono (by omega) _ _ _ _ hn)⟩
  · rcases mI_two n a d hn with ⟨x, x1, x2⟩ | ⟨x, y, x1, y1, h⟩
    · obtain ⟨e, e1, e2⟩ := ol_le (a := mI T R k a b) (b := oa (mI T R k a k) (mI T R k k b)) (.inl x1)
      exact ⟨e, e1, by omega⟩
    · obtain ⟨e, e1, e2⟩ := ol_le (a := mI T R k a b) (b := oa (mI T R k a k) (mI T R k k b)) (x := x + y) (.inr (by rw [x1, y1, oa_some]))
      exact ⟨e, e1, by omega⟩
theorem mI_0 {T : Tw} {R : Nat → Nat → Bool} {a b : Nat} : mI T R 0 a b = if R a b = true then some (ln T b) else none := by
  refine ls_lw ⟨fun d hd => ?_, fun d ⟨n, hn⟩ => ?_⟩
  · split at hd
    · rename_i c
      cases hd
      exact ⟨0, c, rfl⟩
    · cases hd
  · cases n with
    | zero =>
      rw [if_pos hn.1]
      exact ⟨_, rfl, by rw [hn.2]; exact Nat.le_refl _⟩
    | succ n =>
      obtain ⟨c, e, h1, _⟩ := hn
      omega
theorem mI_le {T : Tw} {R : Nat → Nat → Bool} {k b : Nat} (hw : wf T) (hR : ∀ a b, R a b = true → isA T a = true ∧ isA T b = true) : ∀ d a, mI T R k a b = some d → d ≤ 99 * (1 + cp (fun x => cB (∃ e, mI T R k x b = some e ∧ e < d)) 48) := by
  intro d
  induction d using Nat.strongRecOn with
  | ind d ih =>
    intro a h
    have h24 := hw.2.1
    obtain ⟨n, hn⟩ := mI_wi h
    cases n with
    | zero =>
      have := (wf_bg hw (isA_lt (hR a b hn.1).2)).2.2.2.2
      rw [hn.2]
      omega
    | succ n =>
      obtain ⟨c, e, h1, h2, h3, h4⟩ := hn
      have hc := isA_lt (hR a c h2).2
      have hb := wf_bg hw hc
      obtain ⟨e2, e3, e4⟩ := mI_ex h3
      obtain ⟨m, hm⟩ := mI_wi e3
      obtain ⟨z, z1, z2⟩ := mI_ex (T := T) (R := R) (k := k) (n := m + 1) (a := a) (b := b) (d := ln T c + e2) ⟨c, e2, h1, h2, hm, rfl⟩
      rw [h] at z1
      cases z1
      have hee : e2 = e := by omega
      subst hee
      have h5 := ih e2 (by omega) c e3
      have h6 := cp_one (p := fun x => cB (∃ f, mI T R k x b = some f ∧ f < e2)) (q := fun x => cB (∃ f, mI T R k x b = some f ∧ f < d)) (n := 48) (a := c) (by omega) (cB_iff.2 ⟨e2, e3, by omega⟩) (cB_f.2 (fun ⟨f, k1, k2⟩ => by rw [e3] at k1; cases k1; omega)) (fun j _ hj => by
        obtain ⟨f, k1, k2⟩ := cB_iff.1 hj
        exact cB_iff.2 ⟨f, k1, by omega⟩)
      omega
theorem mI_b {T : Tw} {R : Nat → Nat → Bool} {k a b d : Nat} (hw : wf T) (hR : ∀ a b, R a b = true → isA T a = true ∧ isA T b = true) (h : mI T R k a b = some d) : d ≤ 4851 := by
  have h1 := mI_le hw hR d a h
  have h2 := cp_le (p := fun x => cB (∃ e, mI T R k x b = some e ∧ e < d)) 48
  omega
/-- the matrix in the class -/
def MX (σ : zS) (p n : Nat) (M : Nat → Nat → Option Nat) : Prop := ∀ a b, a < n → b < n → gA σ p (a * 48 + b) = Int32.ofInt (fr 268435456 (M a b))
theorem u_short {σ : zS} {p b n f k : Nat} {M : Nat → Nat → Option Nat} {Q : zQ} (h : PS σ p b) (hp : gN σ p = 2304) (hn : n ≤ 48) (hf : f < n) (hk : k < n) (hM : MX σ p n M) (hB : ∀ a b x, M a b = some x → x ≤ 5000) (hQ : ∀ g : Nat → Int32, MX (sA σ p g) p n (fun a b => if a = f then ol (M a b) (oa (M a k) (M k b)) else M a b) → Q (.inl none) (hOf (sA σ p g))) : zW zP 136 [.ref 63, .int (Int32.ofInt f), .int (Int32.ofInt k), .int (Int32.ofInt n)] (hOf σ) Q := by
  have hr := PS_r h
  have hb16 : 16 ≤ p := by omega
  have hfr : ∀ a b, fr 268435456 (M a b) ≤ 268435456 := fun a b => fr_b (fun x hx => by have := hB a b x hx; omega)
  have hfk := hM f k hf hk
  rw [zWE]
  simp -implicitDefEqProofs only [zx_iconst, zx_bipush, zx_sipush, zx_lconst, zx_ldc, zx_ldcS, zx_ldc_w, zx_ldc2_w, zx_iload, zx_lload, zx_aload, zx_istore_n, zx_istore, zx_lstore_n, zx_lstore, zx_astore_n, zx_astore, zx_iinc, zx_iadd, zx_isub, zx_imul, zx_iand, zx_ior, zx_ixor, zx_ishl, zx_ishr, zx_iushr, zx_idiv, zx_irem, zx_ineg, zx_ladd, zx_lsub, zx_land, zx_lor, zx_lxor, zx_lneg, zx_lshl, zx_lushr, zx_i2l, zx_l2i, zx_lcmp, zx_dup, zx_dup2, zx_pop, zx_goto, zx_if_eq, zx_if_ne, zx_if_lt, zx_if_ge, zx_if_gt, zx_if_le, zx_icmp_eq, zx_icmp_ne, zx_icmp_lt, zx_icmp_ge, zx_icmp_gt, zx_icmp_le, zx_getfield, zx_putfield, zx_iaload, zx_laload, zx_aaload, zx_iastore, zx_lastore, zx_arraylength, zx_ireturn, zx_lreturn, zx_areturn, zx_return, zx_athrow, zx_static0, zx_static1, zx_virt1, zx_static2, zx_virt2, zx_static3, zx_virt3, zx_static4, zx_virt4, zx_static5, zx_virt5, zx_static6, zx_virt6, zx_static7, zx_virt7, zx_cpI, zx_cpL, ↓cpI, ↓cpL, zx_slen, zx_schr, zx_tsw, zx_spec3, new_X, zx_new1, zrun_nil, zrun_cons, ↓zgi_h, ↓zgi_n, ↓zgl_h, ↓zgl_n, ↓zgr_h, ↓zgr_n, zset1, zset2, zins_nil, zins_c, f3, cat_i, cat_l, cat_r, List.filter_cons, List.filter_nil, Bool.false_eq_true, l_of0, lv_args, Nat.reduceBEq, Nat.reduceAdd, Nat.reduceLeDiff, Nat.reduceLT, Bool.not_true, Bool.not_false, Bool.and_true, Bool.true_and, Bool.and_false, Bool.false_and, Nat.reduceEqDiff, reduceIte, List.contains_cons, List.contains_nil, Bool.or_false, Bool.or_true, Bool.false_or, Bool.true_or, Fin.isValue, Fin.val_zero, Fin.val_one, Fin.val_two, Fin.reduceFinMk, Option.toList_some, Option.toList_none, List.nil_append, List.cons_append, zwt_nil, zwt_i, zwt_l, zwt_r, zthr_nil, List.isEmpty_nil, zcE, ↓ar_k, lgc0, true_and, and_true, true_implies, implies_true, false_implies, forall_const, i_len, ob_0, ob_1, ↓bI_01, bI_0, not_true_eq_false, not_false_eq_true, Bool.not_eq_false, Bool.not_eq_true, ia_add, ia_sub, ia_mul, ia_neg, ↓ldI, ↓ldL, zaI_c, zaL_c, ↓zlen_I, ↓zlen_L, ↓stI, ↓stL, gD_sI, gN_sI, gI_sI, gJ_sI, gR_sI, gA_sI, gB_sI, gT_sI, gD_sJ, gN_sJ, gI_sJ, gJ_sJ, gR_sJ, gA_sJ, gB_sJ, gT_sJ, gD_sR, gN_sR, gI_sR, gJ_sR, gR_sR, gA_sR, gB_sR, gT_sR, gD_sA, gN_sA, gI_sA, gJ_sA, gR_sA, gA_sA, gB_sA, gT_sA, gD_sB, gN_sB, gI_sB, gJ_sB, gR_sB, gA_sB, gB_sB, gT_sB, zx_il0, zx_il1, zx_il2, zx_il3, zx_ll0, zx_ll1, zx_ll2, zx_ll3, zx_al0, zx_al1, zx_al2, zx_al3, e_has, e_bA, e_mn, e_mx, e_pcI, e_pcL, e_low, zml_136, zg136_0, zb136_0, zb136_16, zg136_77, zb136_77, zg136_83, zb136_83, zmc_136, zms_136, zow_136, zhd_136, ↓gf_3_0, show (Int8.ofInt 48).toInt32 = Int32.ofInt 48 from rfl, show ztg 19 64 = 83 from rfl, show ztg 26 57 = 83 from rfl, show ztg 60 17 = 77 from rfl, show ztg 80 (-64) = 16 from rfl, LPost_d (PS_L h), LPost_r2 (PS_L h), LPost_k2 (PS_L h), LPost_n2 (PS_L h), LPost_r4 (PS_L h), LPost_k4 (PS_L h), LPost_n4 (PS_L h), LPost_r5 (PS_L h), LPost_k5 (PS_L h), LPost_n5 (PS_L h), PS_p h, PS_dp h, hp]
  try simp (disch := omega) only [ii_lt, ii_le, ii_eq, ii_eq0, ii_lt0, ii_0lt, ii_le0, ii_0le, i_inT, i_natN, i_nat, ia_div, ia_rem, hs_ofI, i_1shl, i_or, i_bit, true_and, and_true, not_true_eq_false, not_false_eq_true, true_implies, false_implies, implies_true, Int.reduceLT, Int.reduceLE, Int.reduceEq, Int.reduceNeg, Int.toNat_natCast, Int.reduceToNat, Nat.reduceLeDiff, Nat.reduceAdd, tn_2, tn_2p, tn_48, tn_48r, tn_3, tn_3p, tn_3q, tn_p1, tn_d2, tn_12, ia_add, ia_sub, ia_mul, hfk]
  try simp only [hfk]
  try refine ⟨by omega, ?_⟩
  have key : ∀ i : Nat, i ≤ n → ∀ g : Nat → Int32, MX (sA σ p g) p n (fun a b => if a = f ∧ b < i then ol (M a b) (oa (M a k) (M k b)) else M a b) → zfp zP (zcall zP 136) 136 Q 16 [(0, .ref 63), (1, .int (Int32.ofInt f)), (2, .int (Int32.ofInt k)), (3, .int (Int32.ofInt n)), (4, .int (Int32.ofInt (fr 268435456 (M f k)))), (5, .int (Int32.ofInt i))] [] (hOf (sA σ p g)) 0 0 := by
    refine bk _ ?_
    intro i hi ih g hg
    have h1 := hfr f k
    rw [zg136_16]
    simp -implicitDefEqProofs only [zx_iconst, zx_bipush, zx_sipush, zx_lconst, zx_ldc, zx_ldcS, zx_ldc_w, zx_ldc2_w, zx_iload, zx_lload, zx_aload, zx_istore_n, zx_istore, zx_lstore_n, zx_lstore, zx_astore_n, zx_astore, zx_iinc, zx_iadd, zx_isub, zx_imul, zx_iand, zx_ior, zx_ixor, zx_ishl, zx_ishr, zx_iushr, zx_idiv, zx_irem, zx_ineg, zx_ladd, zx_lsub, zx_land, zx_lor, zx_lxor, zx_lneg, zx_lshl, zx_lushr, zx_i2l, zx_l2i, zx_lcmp, zx_dup, zx_dup2, zx_pop, zx_goto, zx_if_eq, zx_if_ne, zx_if_lt, zx_if_ge, zx_if_gt, zx_if_le, zx_icmp_eq, zx_icmp_ne, zx_icmp_lt, zx_icmp_ge, zx_icmp_gt, zx_icmp_le, zx_getfield, zx_putfield, zx_iaload, zx_laload, zx_aaload, zx_iastore, zx_lastore, zx_arraylength, zx_ireturn, zx_lreturn, zx_areturn, zx_return, zx_athrow, zx_static0, zx_static1, zx_virt1, zx_static2, zx_virt2, zx_static3, zx_virt3, zx_static4, zx_virt4, zx_static5, zx_virt5, zx_static6, zx_virt6, zx_static7, zx_virt7, zx_cpI, zx_cpL, ↓cpI, ↓cpL, zx_slen, zx_schr, zx_tsw, zx_spec3, new_X, zx_new1, zrun_nil, zrun_cons, ↓zgi_h, ↓zgi_n, ↓zgl_h, ↓zgl_n, ↓zgr_h, ↓zgr_n, zset1, zset2, zins_nil, zins_c, f3, cat_i, cat_l, cat_r, List.filter_cons, List.filter_nil, Bool.false_eq_true, l_of0, lv_args, Nat.reduceBEq, Nat.reduceAdd, Nat.reduceLeDiff, Nat.reduceLT, Bool.not_true, Bool.not_false, Bool.and_true, Bool.true_and, Bool.and_false, Bool.false_and, Nat.reduceEqDiff, reduceIte, List.contains_cons, List.contains_nil, Bool.or_false, Bool.or_true, Bool.false_or, Bool.true_or, Fin.isValue, Fin.val_zero, Fin.val_one, Fin.val_two, Fin.reduceFinMk, Option.toList_some, Option.toList_none, List.nil_append, List.cons_append, zwt_nil, zwt_i, zwt_l, zwt_r, zthr_nil, List.isEmpty_nil, zcE, ↓ar_k, lgc0, true_and, and_true, true_implies, implies_true, false_implies, forall_const, i_len, ob_0, ob_1, ↓bI_01, bI_0, not_true_eq_false, not_false_eq_true, Bool.not_eq_false, Bool.not_eq_true, ia_add, ia_sub, ia_mul, ia_neg, ↓ldI, ↓ldL, zaI_c, zaL_c, ↓zlen_I, ↓zlen_L, ↓stI, ↓stL, gD_sI, gN_sI, gI_sI, gJ_sI, gR_sI, gA_sI, gB_sI, gT_sI, gD_sJ, gN_sJ, gI_sJ, gJ_sJ, gR_sJ, gA_sJ, gB_sJ, gT_sJ, gD_sR, gN_sR, gI_sR, gJ_sR, gR_sR, gA_sR, gB_sR, gT_sR, gD_sA, gN_sA, gI_sA, gJ_sA, gR_sA, gA_sA, gB_sA, gT_sA, gD_sB, gN_sB, gI_sB, gJ_sB, gR_sB, gA_sB, gB_sB, gT_sB, zx_il0, zx_il1, zx_il2, zx_il3, zx_ll0, zx_ll1, zx_ll2, zx_ll3, zx_al0, zx_al1, zx_al2, zx_al3, e_has, e_bA, e_mn, e_mx, e_pcI, e_pcL, e_low, zml_136, zg136_0, zb136_0, zb136_16, zg136_77, zb136_77, zg136_83, zb136_83, zmc_136, zms_136, zow_136, zhd_136, ↓gf_3_0, show (Int8.ofInt 48).toInt32 = Int32.ofInt 48 from rfl, show ztg 19 64 = 83 from rfl, show ztg 26 57 = 83 from rfl, show ztg 60 17 = 77 from rfl, show ztg 80 (-64) = 16 from rfl, LPost_d (PS_L h), LPost_r2 (PS_L h), LPost_k2 (PS_L h), LPost_n2 (PS_L h), LPost_r4 (PS_L h), LPost_k4 (PS_L h), LPost_n4 (PS_L h), LPost_r5 (PS_L h), LPost_k5 (PS_L h), LPost_n5 (PS_L h), PS_p h, PS_dp h, hp, hb16, gA_self, sA_sA]
    try simp (disch := omega) only [ii_lt, ii_le, ii_eq, ii_eq0, ii_lt0, ii_0lt, ii_le0, ii_0le, i_inT, i_natN, i_nat, ia_div, ia_rem, hs_ofI, i_1shl, i_or, i_bit, true_and, and_true, not_true_eq_false, not_false_eq_true, true_implies, false_implies, implies_true, Int.reduceLT, Int.reduceLE, Int.reduceEq, Int.reduceNeg, Int.toNat_natCast, Int.reduceToNat, Nat.reduceLeDiff, Nat.reduceAdd, tn_2, tn_2p, tn_48, tn_48r, tn_3, tn_3p, tn_3q, tn_p1, tn_d2, tn_12, ia_add, ia_sub, ia_mul]
    refine ⟨fun c => hQ g (fun a b ha hb => ?_), fun c => ?_⟩
    · rw [hg a b ha hb]
      dsimp only
      by_cases e : a = f
      · rw [if_pos ⟨e, by omega⟩, if_pos e]
      · rw [if_neg (fun z => e z.1), if_neg e]
    · have ih := ih (by omega)
      cases e : M f k with
      | none =>
        simp only [show fr 268435456 none = 268435456 from rfl]
        try simp (disch := omega) only [ii_lt, ii_le, ii_eq, ii_eq0, ii_lt0, ii_0lt, ii_le0, ii_0le, i_inT, i_natN, i_nat, ia_div, ia_rem, hs_ofI, i_1shl, i_or, i_bit, true_and, and_true, not_true_eq_false, not_false_eq_true, true_implies, false_implies, implies_true, Int.reduceLT, Int.reduceLE, Int.reduceEq, Int.reduceNeg, Int.toNat_natCast, Int.reduceToNat, Nat.reduceLeDiff, Nat.reduceAdd, tn_2, tn_2p, tn_48, tn_48r, tn_3, tn_3p, tn_3q, tn_p1, tn_d2, tn_12, ia_add, ia_sub, ia_mul]
        have go : Q (.inl none) (hOf (sA σ p g)) := hQ g (fun a b ha hb => by
          rw [hg a b ha hb]
          dsimp only
          by_cases e2 : a = f
          · rw [if_pos e2, e2, e, oa_none, ol_nr]
            split <;> rfl
          · rw [if_neg (fun z => e2 z.1), if_neg e2])
        first
        | exact go
        | exact ⟨fun _ => go, fun z => by omega⟩
      | some x =>
        have hx := hB f k x e
        rw [e] at ih
        simp only [show fr 268435456 (some x) = x from rfl] at ih ⊢
        try simp (disch := omega) only [ii_lt, ii_le, ii_eq, ii_eq0, ii_lt0, ii_0lt, ii_le0, ii_0le, i_inT, i_natN, i_nat, ia_div, ia_rem, hs_ofI, i_1shl, i_or, i_bit, true_and, and_true, not_true_eq_false, not_false_eq_true, true_implies, false_implies, implies_true, Int.reduceLT, Int.reduceLE, Int.reduceEq, Int.reduceNeg, Int.toNat_natCast, Int.reduceToNat, Nat.reduceLeDiff, Nat.reduceAdd, tn_2, tn_2p, tn_48, tn_48r, tn_3, tn_3p, tn_3q, tn_p1, tn_d2, tn_12, ia_add, ia_sub, ia_mul]
        refine ⟨fun z => by omega, fun _ => ?_⟩
        have hki : g (k * 48 + i) = Int32.ofInt (fr 268435456 (M k i)) := by
          have := hg k i hk (by omega)
          rw [gA_self] at this
          rw [this]
          dsimp only
          rw [if_neg (by omega)]
        have hfi : g (f * 48 + i) = Int32.ofInt (fr 268435456 (M f i)) := by
          have := hg f i hf (by omega)
          rw [gA_self] at this
          rw [this]
          dsimp only
          rw [if_neg (by omega)]
        have b1 := hfr k i
        have b2 := hfr f i
        try simp (disch := omega) only [ii_lt, ii_le, ii_eq, ii_eq0, ii_lt0, ii_0lt, ii_le0, ii_0le, i_inT, i_natN, i_nat, ia_div, ia_rem, hs_ofI, i_1shl, i_or, i_bit, true_and, and_true, not_true_eq_false, not_false_eq_true, true_implies, false_implies, implies_true, Int.reduceLT, Int.reduceLE, Int.reduceEq, Int.reduceNeg, Int.toNat_natCast, Int.reduceToNat, Nat.reduceLeDiff, Nat.reduceAdd, tn_2, tn_2p, tn_48, tn_48r, tn_3, tn_3p, tn_3q, tn_p1, tn_d2, tn_12, ia_add, ia_sub, ia_mul, hki, hfi]
        try simp only [hki, hfi]
        try simp (disch := omega) only [ii_lt, ii_le, ii_eq, ii_eq0, ii_lt0, ii_0lt, ii_le0, ii_0le, i_inT, i_natN, i_nat, ia_div, ia_rem, hs_ofI, i_1shl, i_or, i_bit, true_and, and_true, not_true_eq_false, not_false_eq_true, true_implies, false_implies, implies_true, Int.reduceLT, Int.reduceLE, Int.reduceEq, Int.reduceNeg, Int.toNat_natCast, Int.reduceToNat, Nat.reduceLeDiff, Nat.reduceAdd, tn_2, tn_2p, tn_48, tn_48r, tn_3, tn_3p, tn_3q, tn_p1, tn_d2, tn_12, ia_add, ia_sub, ia_mul]
        try refine ⟨by omega, ?_⟩
        have nx2 : ∀ g2 : Nat → Int32, (∀ j, j ≠ f * 48 + i → g2 j = g j) → g2 (f * 48 + i) = Int32.ofInt (fr 268435456 (ol (M f i) (oa (some x) (M k i)))) → MX (sA σ p g2) p n (fun a b => if a = f ∧ b < i + 1 then ol (M a b) (oa (M a k) (M k b)) else M a b) := by
          intro g2 h3 h4 a b ha hb
          rw [gA_self]
          dsimp only
          by_cases e2 : a = f ∧ b = i
          · rw [e2.1, e2.2, h4, if_pos ⟨rfl, by omega⟩, e]
          · rw [h3 _ (by omega)]
            have := hg a b ha hb
            rw [gA_self] at this
            rw [this]
            dsimp only
            by_cases e3 : a = f ∧ b < i
            · rw [if_pos e3, if_pos ⟨e3.1, by omega⟩]
            · rw [if_neg e3, if_neg (by omega)]
        have val : ∀ v : Nat, v = fr 268435456 (ol (M f i) (oa (some x) (M k i))) → (x + fr 268435456 (M k i) < fr 268435456 (M f i) → v = x + fr 268435456 (M k i)) ∧ (¬ x + fr 268435456 (M k i) < fr 268435456 (M f i) → v = fr 268435456 (M f i)) := by
          intro v hv
          rw [hv]
          cases e3 : M k i with
          | none =>
            rw [oa_nr, ol_nr]
            simp only [show fr 268435456 none = 268435456 from rfl]
            exact ⟨fun z => by omega, fun _ => (by first | trivial | rfl)⟩
          | some y =>
            have := hB k i y e3
            rw [oa_some]
            cases e4 : M f i with
            | none => exact ⟨fun _ => rfl, fun z => absurd (show x + y < 268435456 by omega) z⟩
            | some u =>
              show (x + y < u → min u (x + y) = x + y) ∧ (¬ x + y < u → min u (x + y) = u)
              omega
        obtain ⟨v1, v2⟩ := val _ rfl
        refine ⟨fun c3 => ?_, fun c3 => ?_⟩
        · have := ih g (nx2 g (fun _ _ => rfl) (by rw [hfi, v2 (by omega)]))
          first | exact this | exact zjf rfl (this)
        · try refine ⟨by omega, ?_⟩
          have := ih (upd g (f * 48 + i) (Int32.ofInt ((x : Int) + (fr 268435456 (M k i) : Int)))) (nx2 _ (fun j hj => upd_n hj) (by rw [upd_s, v1 (by omega)]; rfl))
          first | exact this | exact zjf rfl (this)
  have := key 0 (by omega) (gA σ p) (fun a b ha hb => by rw [sA_same rfl, hM a b ha hb]; dsimp only; rw [if_neg (by omega)])
  rw [sA_same rfl] at this
  first | exact this | exact zjf rfl (this)
