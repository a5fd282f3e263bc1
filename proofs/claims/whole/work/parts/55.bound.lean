/-! THE BOUND -/
def ol (a b : Option Nat) : Option Nat := match a, b with
  | none, b => b
  | some x, none => some x
  | some x, some y => some (min x y)
theorem ol_nr {a : Option Nat} : ol a none = a := by cases a <;> rfl
/-- from a set on to those with one more, the first n of them -/
def db1 (w : Nat → Nat → Option Nat) (k : Nat) (G : Nat → Option Nat) : Nat → Nat → Option Nat
  | 0 => G
  | b + 1 => if k.testBit b = true then db1 w k G b else fun s => if s = k ||| 2 ^ b then ol (db1 w k G b s) (oa (G k) (w (cn k 32) b)) else db1 w k G b s
def db2 (w : Nat → Nat → Option Nat) (N : Nat) : Nat → Nat → Option Nat
  | 0 => fun s => if s = 0 then some 0 else none
  | k + 1 => db1 w k (db2 w N k) N
theorem or_ne {k b : Nat} (h : k.testBit b = false) : k ||| 2 ^ b ≠ k := by
  intro e
  have : (k ||| 2 ^ b).testBit b = true := by
    rw [Nat.testBit_or, Nat.testBit_two_pow, decide_eq_true rfl, Bool.or_true]
  rw [e, h] at this
  cases this
theorem db1_k {w : Nat → Nat → Option Nat} {k : Nat} {G : Nat → Option Nat} : ∀ n, db1 w k G n k = G k
  | 0 => rfl
  | n + 1 => by
    have ih := db1_k (w := w) (k := k) (G := G) n
    show (if k.testBit n = true then db1 w k G n else fun s => if s = k ||| 2 ^ n then ol (db1 w k G n s) (oa (G k) (w (cn k 32) n)) else db1 w k G n s) k = G k
    cases e : k.testBit n with
    | true =>
      rw [if_pos rfl]
      exact ih
    | false =>
      rw [if_neg (by simp)]
      show (if k = k ||| 2 ^ n then _ else _) = _
      rw [if_neg (fun z => or_ne e z.symm)]
      exact ih
theorem db1_none {w : Nat → Nat → Option Nat} {k : Nat} {G : Nat → Option Nat} (h : G k = none) : ∀ n s, db1 w k G n s = G s
  | 0, s => rfl
  | n + 1, s => by
    have ih := db1_none (w := w) h n
    show (if k.testBit n = true then db1 w k G n else fun s => if s = k ||| 2 ^ n then ol (db1 w k G n s) (oa (G k) (w (cn k 32) n)) else db1 w k G n s) s = G s
    cases e : k.testBit n with
    | true =>
      rw [if_pos rfl]
      exact ih s
    | false =>
      rw [if_neg (by simp)]
      show (if s = k ||| 2 ^ n then _ else _) = _
      split
      · rw [h, oa_none, ol_nr]
        exact ih s
      · exact ih s
theorem cn_or {k b : Nat} (hb : b < 32) (h : k.testBit b = false) : cn (k ||| 2 ^ b) 32 = cn k 32 + 1 := by
  rw [← cp_cn, ← cp_cn]
  have h1 : cp k.testBit 32 + 1 = cp (k ||| 2 ^ b).testBit 32 := by
    rw [cp_rem (p := (k ||| 2 ^ b).testBit) (q := k.testBit) (i := b) 32 hb (by rw [Nat.testBit_or, Nat.testBit_two_pow, decide_eq_true rfl, Bool.or_true])]
    intro j
    rw [Nat.testBit_or, Nat.testBit_two_pow]
    by_cases e : b = j
    · subst e
      rw [h]
      simp
    · rw [decide_eq_false e, Bool.or_false, decide_eq_true (by omega), Bool.and_true]
  omega
/-- lengths stay small -/
def bG (G : Nat → Option Nat) : Prop := ∀ s x, G s = some x → x ≤ 5000 * cn s 32
theorem bG_1 {w : Nat → Nat → Option Nat} {k : Nat} {G : Nat → Option Nat} (hG : bG G) (hw : ∀ i j x, w i j = some x → x ≤ 5000) : ∀ n, n ≤ 32 → bG (db1 w k G n)
  | 0, _ => hG
  | n + 1, hn => by
    have ih := bG_1 (k := k) hG hw n (by omega)
    show bG (if k.testBit n = true then db1 w k G n else fun s => if s = k ||| 2 ^ n then ol (db1 w k G n s) (oa (G k) (w (cn k 32) n)) else db1 w k G n s)
    cases e : k.testBit n with
    | true =>
      rw [if_pos rfl]
      exact ih
    | false =>
      rw [if_neg (by simp)]
      intro s x hx
      dsimp only at hx
      split at hx
      · rename_i c
        cases e1 : db1 w k G n s with
        | none =>
          rw [e1] at hx
          obtain ⟨y, z, y1, y2, y3⟩ := oa_ex (show oa (G k) (w (cn k 32) n) = some x from hx)
          have h1 := hG k y y1
          have h2 := hw _ _ _ y2
          rw [c, cn_or (by omega) e]
          omega
        | some q =>
          have h3 := ih s q e1
          rw [e1] at hx
          cases e2 : oa (G k) (w (cn k 32) n) with
          | none =>
            rw [e2] at hx
            cases hx
            exact h3
          | some v =>
            rw [e2] at hx
            have : x = min q v := (Option.some.inj hx).symm
            omega
      · exact ih s x hx
theorem bG_2 {w : Nat → Nat → Option Nat} {N : Nat} (hw : ∀ i j x, w i j = some x → x ≤ 5000) (hN : N ≤ 32) : ∀ k, bG (db2 w N k)
  | 0 => by
    intro s x hx
    have : (if s = 0 then some 0 else none) = some x := hx
    split at this
    · cases this
      exact Nat.zero_le _
    · cases this
  | k + 1 => bG_1 (bG_2 hw hN k) hw N hN
theorem fr_b {o : Option Nat} (h : ∀ x, o = some x → x ≤ 200000) : fr 268435456 o ≤ 268435456 := by
  cases o with
  | none => exact Nat.le_refl _
  | some x =>
    have := h x rfl
    show x ≤ _
    omega
theorem cn_lt {k N : Nat} (hN : N ≤ 32) (hk : k < 2 ^ N - 1) : cn k 32 < N := by
  have e : k = ms k.testBit N := by
    refine ms_of (fun j => ?_)
    by_cases h : j < N
    · rw [decide_eq_true h, Bool.true_and]
    · rw [decide_eq_false h, Bool.false_and]
      exact Nat.testBit_lt_two_pow (Nat.lt_of_lt_of_le (show k < 2 ^ N by omega) (Nat.pow_le_pow_right (by omega) (by omega)))
  have h1 : cn k 32 = cp k.testBit N := by
    have := ms_cn (p := k.testBit) hN
    rw [← e] at this
    exact this
  rw [h1]
  by_cases h2 : ∃ j, j < N ∧ k.testBit j = false
  · obtain ⟨j, j1, j2⟩ := h2
    have := cp_lt j1 j2
    omega
  · exfalso
    have : ms k.testBit N = 2 ^ N - 1 := ms_all.2 (fun j hj => by
      cases e2 : k.testBit j with
      | true => rfl
      | false => exact absurd ⟨j, hj, e2⟩ h2)
    omega
theorem u_take {σ : zS} {p b N k : Nat} {w : Nat → Nat → Option Nat} {G : Nat → Option Nat} {Q : zQ} (h : PS σ p b) (hN : gI σ 63 3 = Int32.ofInt N) (hN11 : N ≤ 11) (hk : k < 2 ^ N - 1) (hb : 2 ^ N ≤ gN σ b) (hp : gN σ p = 2304) (hw : ∀ i j, i < N → j < N → gA σ p (i * 48 + j) = Int32.ofInt (fr 268435456 (w i j))) (hw2 : ∀ i j x, w i j = some x → x ≤ 5000) (hG : bG G) (hA : ∀ s, s < 2 ^ N → gA σ b s = Int32.ofInt (fr 268435456 (G s))) (hQ : ∀ g : Nat → Int32, (∀ s, s < 2 ^ N → g s = Int32.ofInt (fr 268435456 (db1 w k G N s))) → Q (.inl none) (hOf (sA σ b g))) : zW zP 60 [.ref 63, .int (Int32.ofInt k)] (hOf σ) Q := by
  have hr := PS_r h
  have hb16 : 16 ≤ b := by omega
  have p11 : (2 : Nat) ^ N ≤ 2048 := Nat.pow_le_pow_right (n := 2) (by omega) hN11
  have hcn := cn_lt (N := N) (by omega) hk
  have npb : (p = b) = False := eq_false hr.1
  rw [zWE]
  simp -implicitDefEqProofs only [zx_iconst, zx_bipush, zx_sipush, zx_lconst, zx_ldc, zx_ldcS, zx_ldc_w, zx_ldc2_w, zx_iload, zx_lload, zx_aload, zx_istore_n, zx_istore, zx_lstore_n, zx_lstore, zx_astore_n, zx_astore, zx_iinc, zx_iadd, zx_isub, zx_imul, zx_iand, zx_ior, zx_ixor, zx_ishl, zx_ishr, zx_iushr, zx_idiv, zx_irem, zx_ineg, zx_ladd, zx_lsub, zx_land, zx_lor, zx_lxor, zx_lneg, zx_lshl, zx_lushr, zx_i2l, zx_l2i, zx_lcmp, zx_dup, zx_dup2, zx_pop, zx_goto, zx_if_eq, zx_if_ne, zx_if_lt, zx_if_ge, zx_if_gt, zx_if_le, zx_icmp_eq, zx_icmp_ne, zx_icmp_lt, zx_icmp_ge, zx_icmp_gt, zx_icmp_le, zx_getfield, zx_putfield, zx_iaload, zx_laload, zx_aaload, zx_iastore, zx_lastore, zx_arraylength, zx_ireturn, zx_lreturn, zx_areturn, zx_return, zx_athrow, zx_static0, zx_static1, zx_virt1, zx_static2, zx_virt2, zx_static3, zx_virt3, zx_static4, zx_virt4, zx_static5, zx_virt5, zx_static6, zx_virt6, zx_static7, zx_virt7, zx_cpI, zx_cpL, ↓cpI, ↓cpL, zx_slen, zx_schr, zx_tsw, zx_spec3, new_X, zx_new1, zrun_nil, zrun_cons, ↓zgi_h, ↓zgi_n, ↓zgl_h, ↓zgl_n, ↓zgr_h, ↓zgr_n, zset1, zset2, zins_nil, zins_c, f3, cat_i, cat_l, cat_r, List.filter_cons, List.filter_nil, Bool.false_eq_true, l_of0, lv_args, Nat.reduceBEq, Nat.reduceAdd, Nat.reduceLeDiff, Nat.reduceLT, Bool.not_true, Bool.not_false, Bool.and_true, Bool.true_and, Bool.and_false, Bool.false_and, Nat.reduceEqDiff, reduceIte, List.contains_cons, List.contains_nil, Bool.or_false, Bool.or_true, Bool.false_or, Bool.true_or, Fin.isValue, Fin.val_zero, Fin.val_one, Fin.val_two, Fin.reduceFinMk, Option.toList_some, Option.toList_none, List.nil_append, List.cons_append, zwt_nil, zwt_i, zwt_l, zwt_r, zthr_nil, List.isEmpty_nil, zcE, ↓ar_k, lgc0, true_and, and_true, true_implies, implies_true, false_implies, forall_const, i_len, ob_0, ob_1, ↓bI_01, bI_0, not_true_eq_false, not_false_eq_true, Bool.not_eq_false, Bool.not_eq_true, ia_add, ia_sub, ia_mul, ia_neg, ↓ldI, ↓ldL, zaI_c, zaL_c, ↓zlen_I, ↓zlen_L, ↓stI, ↓stL, gD_sI, gN_sI, gI_sI, gJ_sI, gR_sI, gA_sI, gB_sI, gT_sI, gD_sJ, gN_sJ, gI_sJ, gJ_sJ, gR_sJ, gA_sJ, gB_sJ, gT_sJ, gD_sR, gN_sR, gI_sR, gJ_sR, gR_sR, gA_sR, gB_sR, gT_sR, gD_sA, gN_sA, gI_sA, gJ_sA, gR_sA, gA_sA, gB_sA, gT_sA, gD_sB, gN_sB, gI_sB, gJ_sB, gR_sB, gA_sB, gB_sB, gT_sB, zx_il0, zx_il1, zx_il2, zx_il3, zx_ll0, zx_ll1, zx_ll2, zx_ll3, zx_al0, zx_al1, zx_al2, zx_al3, e_has, e_bA, e_mn, e_mx, e_pcI, e_pcL, e_low, zml_60, zg60_0, zb60_0, zb60_7, zg60_76, zb60_76, zg60_82, zb60_82, zmc_26, zms_26, zow_26, zhd_26, zmc_59, zms_59, zow_59, zhd_59, zmc_60, zms_60, zow_60, zhd_60, ↓gf_3_0, ↓gf_3_1, ↓gf_3_3, show (Int8.ofInt 48).toInt32 = Int32.ofInt 48 from rfl, show ztg 12 70 = 82 from rfl, show ztg 23 59 = 82 from rfl, show ztg 31 45 = 76 from rfl, show ztg 79 (-72) = 7 from rfl, LPost_d (PS_L h), LPost_r2 (PS_L h), LPost_k2 (PS_L h), LPost_n2 (PS_L h), LPost_r4 (PS_L h), LPost_k4 (PS_L h), LPost_n4 (PS_L h), LPost_r5 (PS_L h), LPost_k5 (PS_L h), LPost_n5 (PS_L h)]
  rw [pcI_eq, n32_of (by omega)]
  have key : ∀ j : Nat, j ≤ N → ∀ g : Nat → Int32, (∀ s, s < 2 ^ N → g s = Int32.ofInt (fr 268435456 (db1 w k G j s))) → zfp zP (zcall zP 60) 60 Q 7 [(0, .ref 63), (1, .int (Int32.ofInt k)), (2, .int (Int32.ofInt (cn k 32))), (3, .int (Int32.ofInt j))] [] (hOf (sA σ b g)) 0 0 := by
    refine bk _ ?_
    intro j hj ih g hg
    have hbj := bG_1 (k := k) hG hw2 j (by omega)
    have hGk : ∀ x, G k = some x → x ≤ 200000 := fun x hx => by
      have := hG k x hx
      have := cn_le (x := k) 32
      omega
    have hgk := hg k (by omega)
    rw [db1_k] at hgk
    have hfk := fr_b hGk
    rw [zg60_7]
    simp -implicitDefEqProofs only [zx_iconst, zx_bipush, zx_sipush, zx_lconst, zx_ldc, zx_ldcS, zx_ldc_w, zx_ldc2_w, zx_iload, zx_lload, zx_aload, zx_istore_n, zx_istore, zx_lstore_n, zx_lstore, zx_astore_n, zx_astore, zx_iinc, zx_iadd, zx_isub, zx_imul, zx_iand, zx_ior, zx_ixor, zx_ishl, zx_ishr, zx_iushr, zx_idiv, zx_irem, zx_ineg, zx_ladd, zx_lsub, zx_land, zx_lor, zx_lxor, zx_lneg, zx_lshl, zx_lushr, zx_i2l, zx_l2i, zx_lcmp, zx_dup, zx_dup2, zx_pop, zx_goto, zx_if_eq, zx_if_ne, zx_if_lt, zx_if_ge, zx_if_gt, zx_if_le, zx_icmp_eq, zx_icmp_ne, zx_icmp_lt, zx_icmp_ge, zx_icmp_gt, zx_icmp_le, zx_getfield, zx_putfield, zx_iaload, zx_laload, zx_aaload, zx_iastore, zx_lastore, zx_arraylength, zx_ireturn, zx_lreturn, zx_areturn, zx_return, zx_athrow, zx_static0, zx_static1, zx_virt1, zx_static2, zx_virt2, zx_static3, zx_virt3, zx_static4, zx_virt4, zx_static5, zx_virt5, zx_static6, zx_virt6, zx_static7, zx_virt7, zx_cpI, zx_cpL, ↓cpI, ↓cpL, zx_slen, zx_schr, zx_tsw, zx_spec3, new_X, zx_new1, zrun_nil, zrun_cons, ↓zgi_h, ↓zgi_n, ↓zgl_h, ↓zgl_n, ↓zgr_h, ↓zgr_n, zset1, zset2, zins_nil, zins_c, f3, cat_i, cat_l, cat_r, List.filter_cons, List.filter_nil, Bool.false_eq_true, l_of0, lv_args, Nat.reduceBEq, Nat.reduceAdd, Nat.reduceLeDiff, Nat.reduceLT, Bool.not_true, Bool.not_false, Bool.and_true, Bool.true_and, Bool.and_false, Bool.false_and, Nat.reduceEqDiff, reduceIte, List.contains_cons, List.contains_nil, Bool.or_false, Bool.or_true, Bool.false_or, Bool.true_or, Fin.isValue, Fin.val_zero, Fin.val_one, Fin.val_two, Fin.reduceFinMk, Option.toList_some, Option.toList_none, List.nil_append, List.cons_append, zwt_nil, zwt_i, zwt_l, zwt_r, zthr_nil, List.isEmpty_nil, zcE, ↓ar_k, lgc0, true_and, and_true, true_implies, implies_true, false_implies, forall_const, i_len, ob_0, ob_1, ↓bI_01, bI_0, not_true_eq_false, not_false_eq_true, Bool.not_eq_false, Bool.not_eq_true, ia_add, ia_sub, ia_mul, ia_neg, ↓ldI, ↓ldL, zaI_c, zaL_c, ↓zlen_I, ↓zlen_L, ↓stI, ↓stL, gD_sI, gN_sI, gI_sI, gJ_sI, gR_sI, gA_sI, gB_sI, gT_sI, gD_sJ, gN_sJ, gI_sJ, gJ_sJ, gR_sJ, gA_sJ, gB_sJ, gT_sJ, gD_sR, gN_sR, gI_sR, gJ_sR, gR_sR, gA_sR, gB_sR, gT_sR, gD_sA, gN_sA, gI_sA, gJ_sA, gR_sA, gA_sA, gB_sA, gT_sA, gD_sB, gN_sB, gI_sB, gJ_sB, gR_sB, gA_sB, gB_sB, gT_sB, zx_il0, zx_il1, zx_il2, zx_il3, zx_ll0, zx_ll1, zx_ll2, zx_ll3, zx_al0, zx_al1, zx_al2, zx_al3, e_has, e_bA, e_mn, e_mx, e_pcI, e_pcL, e_low, zml_60, zg60_0, zb60_0, zb60_7, zg60_76, zb60_76, zg60_82, zb60_82, zmc_26, zms_26, zow_26, zhd_26, zmc_59, zms_59, zow_59, zhd_59, zmc_60, zms_60, zow_60, zhd_60, ↓gf_3_0, ↓gf_3_1, ↓gf_3_3, show (Int8.ofInt 48).toInt32 = Int32.ofInt 48 from rfl, show ztg 12 70 = 82 from rfl, show ztg 23 59 = 82 from rfl, show ztg 31 45 = 76 from rfl, show ztg 79 (-72) = 7 from rfl, LPost_d (PS_L h), LPost_r2 (PS_L h), LPost_k2 (PS_L h), LPost_n2 (PS_L h), LPost_r4 (PS_L h), LPost_k4 (PS_L h), LPost_n4 (PS_L h), LPost_r5 (PS_L h), LPost_k5 (PS_L h), LPost_n5 (PS_L h), PS_p h, PS_b h, PS_db h, PS_dp h, hb16, hN, hp, npb, gA_self, sA_sA]
    try simp (disch := omega) only [ii_lt, ii_le, ii_eq, ii_eq0, ii_lt0, ii_0lt, ii_le0, ii_0le, i_inT, i_natN, i_nat, ia_div, ia_rem, hs_ofI, i_1shl, i_or, i_bit, true_and, and_true, not_true_eq_false, not_false_eq_true, true_implies, false_implies, implies_true, Int.reduceLT, Int.reduceLE, Int.reduceEq, Int.reduceNeg, Int.toNat_natCast, Int.reduceToNat, Nat.reduceLeDiff, Nat.reduceAdd, tn_2, tn_2p, tn_48, tn_48r, tn_3, tn_3p, tn_3q, tn_p1, tn_d2, tn_12, ia_add, ia_sub, ia_mul, hgk]
    try simp only [hgk]
    try simp (disch := omega) only [ii_lt, ii_le, ii_eq, ii_eq0, ii_lt0, ii_0lt, ii_le0, ii_0le, i_inT, i_natN, i_nat, ia_div, ia_rem, hs_ofI, i_1shl, i_or, i_bit, true_and, and_true, not_true_eq_false, not_false_eq_true, true_implies, false_implies, implies_true, Int.reduceLT, Int.reduceLE, Int.reduceEq, Int.reduceNeg, Int.toNat_natCast, Int.reduceToNat, Nat.reduceLeDiff, Nat.reduceAdd, tn_2, tn_2p, tn_48, tn_48r, tn_3, tn_3p, tn_3q, tn_p1, tn_d2, tn_12, ia_add, ia_sub, ia_mul]
    refine ⟨fun c => hQ g (fun s hs => by rw [hg s hs, show j = N from by omega]), fun c => ?_⟩
    try refine ⟨by omega, ?_⟩
    cases e : G k with
    | none =>
      simp only [show fr 268435456 none = 268435456 from rfl]
      try simp (disch := omega) only [ii_lt, ii_le, ii_eq, ii_eq0, ii_lt0, ii_0lt, ii_le0, ii_0le, i_inT, i_natN, i_nat, ia_div, ia_rem, hs_ofI, i_1shl, i_or, i_bit, true_and, and_true, not_true_eq_false, not_false_eq_true, true_implies, false_implies, implies_true, Int.reduceLT, Int.reduceLE, Int.reduceEq, Int.reduceNeg, Int.toNat_natCast, Int.reduceToNat, Nat.reduceLeDiff, Nat.reduceAdd, tn_2, tn_2p, tn_48, tn_48r, tn_3, tn_3p, tn_3q, tn_p1, tn_d2, tn_12, ia_add, ia_sub, ia_mul]
      first
      | exact hQ g (fun s hs => by rw [hg s hs, db1_none e, db1_none e])
      | exact ⟨fun _ => hQ g (fun s hs => by rw [hg s hs, db1_none e, db1_none e]), fun z => by omega⟩
    | some x =>
      have hx := hGk x e
      simp only [show fr 268435456 (some x) = x from rfl]
      try simp (disch := omega) only [ii_lt, ii_le, ii_eq, ii_eq0, ii_lt0, ii_0lt, ii_le0, ii_0le, i_inT, i_natN, i_nat, ia_div, ia_rem, hs_ofI, i_1shl, i_or, i_bit, true_and, and_true, not_true_eq_false, not_false_eq_true, true_implies, false_implies, implies_true, Int.reduceLT, Int.reduceLE, Int.reduceEq, Int.reduceNeg, Int.toNat_natCast, Int.reduceToNat, Nat.reduceLeDiff, Nat.reduceAdd, tn_2, tn_2p, tn_48, tn_48r, tn_3, tn_3p, tn_3q, tn_p1, tn_d2, tn_12, ia_add, ia_sub, ia_mul, bI_0]
      refine ⟨fun z => by omega, fun _ => ?_⟩
      have ih := ih (by omega)
      cases eb : k.testBit j with
      | true =>
        have hd : db1 w k G (j + 1) = db1 w k G j := by
          show (if k.testBit j = true then _ else _) = _
          rw [if_pos eb]
        rw [hd] at ih
        try simp (disch := omega) only [ii_lt, ii_le, ii_eq, ii_eq0, ii_lt0, ii_0lt, ii_le0, ii_0le, i_inT, i_natN, i_nat, ia_div, ia_rem, hs_ofI, i_1shl, i_or, i_bit, true_and, and_true, not_true_eq_false, not_false_eq_true, true_implies, false_implies, implies_true, Int.reduceLT, Int.reduceLE, Int.reduceEq, Int.reduceNeg, Int.toNat_natCast, Int.reduceToNat, Nat.reduceLeDiff, Nat.reduceAdd, tn_2, tn_2p, tn_48, tn_48r, tn_3, tn_3p, tn_3q, tn_p1, tn_d2, tn_12, ia_add, ia_sub, ia_mul, bI_0]
        first
        | first | exact (ih g hg) | exact zjf rfl ((ih g hg))
        | exact ⟨fun _ => zjf rfl (ih g hg), fun z => (by cases z)⟩
        | exact ⟨fun _ => ih g hg, fun z => (by cases z)⟩
      | false =>
        have hd : db1 w k G (j + 1) = fun s => if s = k ||| 2 ^ j then ol (db1 w k G j s) (oa (G k) (w (cn k 32) j)) else db1 w k G j s := by
          show (if k.testBit j = true then _ else _) = _
          rw [if_neg (by rw [eb]; simp)]
        rw [hd] at ih
        have hor : k ||| 2 ^ j < 2 ^ N := Nat.or_lt_two_pow (by omega) (Nat.pow_lt_pow_right (by omega) (by omega))
        have hgo := hg (k ||| 2 ^ j) hor
        have hwj := hw (cn k 32) j (by omega) (by omega)
        have hbo := hbj (k ||| 2 ^ j)
        have hcl := cn_le (x := k ||| 2 ^ j) 32
        try simp (disch := omega) only [ii_lt, ii_le, ii_eq, ii_eq0, ii_lt0, ii_0lt, ii_le0, ii_0le, i_inT, i_natN, i_nat, ia_div, ia_rem, hs_ofI, i_1shl, i_or, i_bit, true_and, and_true, not_true_eq_false, not_false_eq_true, true_implies, false_implies, implies_true, Int.reduceLT, Int.reduceLE, Int.reduceEq, Int.reduceNeg, Int.toNat_natCast, Int.reduceToNat, Nat.reduceLeDiff, Nat.reduceAdd, tn_2, tn_2p, tn_48, tn_48r, tn_3, tn_3p, tn_3q, tn_p1, tn_d2, tn_12, ia_add, ia_sub, ia_mul, bI_0, hgo, hwj]
        try simp only [hgo, hwj]
        try simp (disch := omega) only [ii_lt, ii_le, ii_eq, ii_eq0, ii_lt0, ii_0lt, ii_le0, ii_0le, i_inT, i_natN, i_nat, ia_div, ia_rem, hs_ofI, i_1shl, i_or, i_bit, true_and, and_true, not_true_eq_false, not_false_eq_true, true_implies, false_implies, implies_true, Int.reduceLT, Int.reduceLE, Int.reduceEq, Int.reduceNeg, Int.toNat_natCast, Int.reduceToNat, Nat.reduceLeDiff, Nat.reduceAdd, tn_2, tn_2p, tn_48, tn_48r, tn_3, tn_3p, tn_3q, tn_p1, tn_d2, tn_12, ia_add, ia_sub, ia_mul]
        have fin : ∀ v : Int32, v = Int32.ofInt (fr 268435456 (ol (db1 w k G j (k ||| 2 ^ j)) (oa (G k) (w (cn k 32) j)))) → zfp zP (zcall zP 60) 60 Q 7 [(0, .ref 63), (1, .int (Int32.ofInt k)), (2, .int (Int32.ofInt (cn k 32))), (3, .int (Int32.ofInt ((j : Int) + 1)))] [] (hOf (sA σ b (upd g (k ||| 2 ^ j) v))) 0 0 := by
          intro v hv
          refine ih _ (fun s hs => ?_)
          show (if s = k ||| 2 ^ j then _ else g s) = Int32.ofInt (fr 268435456 (if s = k ||| 2 ^ j then _ else _))
          by_cases e2 : s = k ||| 2 ^ j
          · rw [if_pos e2, if_pos e2, hv, e2]
          · rw [if_neg e2, if_neg e2]
            exact hg s hs
        have hval : mn (Int32.ofInt (fr 268435456 (db1 w k G j (k ||| 2 ^ j)))) (Int32.ofInt ((x : Int) + (fr 268435456 (w (cn k 32) j) : Int))) = Int32.ofInt (fr 268435456 (ol (db1 w k G j (k ||| 2 ^ j)) (oa (G k) (w (cn k 32) j)))) := by
          rw [e]
          cases e3 : w (cn k 32) j with
          | none =>
            rw [oa_nr, ol_nr, show fr 268435456 none = 268435456 from rfl]
            have := fr_b (o := db1 w k G j (k ||| 2 ^ j)) (fun y hy => by have := hbo y hy; omega)
            rw [mn_of (by omega) (by omega)]
            congr 1
            omega
          | some y =>
            have hy := hw2 _ _ _ e3
            rw [oa_some, show fr 268435456 (some y) = y from rfl]
            cases e4 : db1 w k G j (k ||| 2 ^ j) with
            | none =>
              rw [show fr 268435456 none = 268435456 from rfl, mn_of (by omega) (by omega)]
              show _ = Int32.ofInt ((x + y : Nat) : Int)
              congr 1
              omega
            | some u =>
              have hu := hbo u e4
              rw [show fr 268435456 (some u) = u from rfl, mn_of (by omega) (by omega)]
              show _ = Int32.ofInt ((min u (x + y) : Nat) : Int)
              congr 1
              omega
        first
        | exact fin _ hval
        | exact zjf rfl (fin _ hval)
        | exact ⟨fun _ => fin _ hval, fun z => (by cases z)⟩
        | exact ⟨fun z => (by cases z), fun _ => fin _ hval⟩
  have := key 0 (by omega) (gA σ b) (fun s hs => hA s hs)
  rw [sA_same rfl] at this
  first | exact this | exact zjf rfl (this)
