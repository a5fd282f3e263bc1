/-! WHAT BREAKS IN EACH OF THE FEWEST WAYS -/
theorem ov_le {f : Nat → Option Nat} {w : Nat → Int64} {n e x : Nat} (he : e < n) (h : f e = some x) : ∃ m, (ov f w n).1 = some m ∧ m ≤ x := by
  cases e2 : (ov f w n).1 with
  | none =>
    rw [(ov_0 n e2).2 e he] at h
    cases h
  | some m => exact ⟨m, rfl, (ov_m n e2).2.2 e x he h⟩
theorem pc_no {R : Nat → Nat → Bool} {ban : Int} {a b z : Nat} (h : pc R ban a b = some z) : pc R (-1) a b = some z := by
  unfold pc at h ⊢
  split at h
  · rename_i c
    rw [if_pos c]
    exact h
  · rename_i c
    rw [if_neg c]
    split at h
    · cases h
    · rw [if_neg (by omega)]
      exact h
theorem oa_ex {a b : Option Nat} {x : Nat} (h : oa a b = some x) : ∃ y z, a = some y ∧ b = some z ∧ x = y + z := by
  cases a with
  | none => cases h
  | some y =>
    cases b with
    | none => cases h
    | some z =>
      cases h
      exact ⟨y, z, rfl, rfl, rfl⟩
theorem st_mono {T : Tw} {R : Nat → Nat → Bool} {U : Nat → Nat} {ban : Int} : ∀ i a x, (st T R U ban i a).1 = some x → ∃ y, (st T R U (-1) i a).1 = some y ∧ y ≤ x
  | 0, a, x, h => ⟨x, h, Nat.le_refl _⟩
  | i + 1, a, x, h => by
    have hl := st_lg h
    rw [st_s hl] at h ⊢
    obtain ⟨_, ⟨e, h1, h2⟩, _⟩ := ov_m 48 h
    obtain ⟨y, z, k1, k2, k3⟩ := oa_ex h2
    obtain ⟨y2, k4, k5⟩ := st_mono i e y k1
    obtain ⟨m, m1, m2⟩ := ov_le (f := fun e => oa (st T R U (-1) i e).1 (pc R (-1) e a)) (w := fun e => (st T R U (-1) i e).2) (x := y2 + z) h1 (by
      show oa (st T R U (-1) i e).1 (pc R (-1) e a) = _
      rw [k4, pc_no k2, oa_some])
    exact ⟨m, m1, by omega⟩
theorem sT_mono {T : Tw} {R : Nat → Nat → Bool} {U : Nat → Nat} {ban : Int} {m x : Nat} (h : (sT T R U ban m).1 = some x) : ∃ y, (sT T R U (-1) m).1 = some y ∧ y ≤ x := by
  obtain ⟨_, ⟨e, h1, h2⟩, _⟩ := ov_m 48 h
  obtain ⟨y, k1, k2⟩ := st_mono _ _ _ h2
  obtain ⟨m2, m3, m4⟩ := ov_le (f := fun a => (st T R U (-1) (m - 2) a).1) (w := fun a => (st T R U (-1) (m - 2) a).2) h1 k1
  exact ⟨m2, m3, by omega⟩
theorem cp_sub {D E : Nat → Bool} (h : ∀ c, E c = true → D c = true) : ∀ n, cp E n = cp (fun j => E (nt D j)) (cp D n)
  | 0 => rfl
  | n + 1 => by
    have ih := cp_sub h n
    cases e : D n with
    | false =>
      have e2 : E n = false := by
        cases e3 : E n with
        | false => rfl
        | true =>
          rw [h n e3] at e
          cases e
      rw [cp_f e, cp_f e2, ih]
    | true =>
      rw [cp_t e]
      show cp E n + _ = cp (fun j => E (nt D j)) (cp D n) + _
      rw [ih]
      show _ = _ + (E (nt D (cp D n))).toNat
      rw [nt_cp e]
theorem nt_lt {D : Nat → Bool} {j n N : Nat} (hj : j < cp D N) : nt D j < n ↔ j < cp D n := by
  obtain ⟨h1, h2, h3⟩ := nt_ok N hj
  constructor
  · intro h
    have := cp_le2 (p := D) (m := nt D j + 1) (n := n) (by omega)
    rw [cp_t h2, h3] at this
    omega
  · intro h
    exact (nt_ok n h).1
theorem cp_upd {D : Nat → Bool} {c : Nat} (hc : D c = false) : ∀ n, cp (fun j => D j || decide (j = c)) n = cp D n + (if c < n then 1 else 0)
  | 0 => by rw [if_neg (by omega)]; rfl
  | n + 1 => by
    have ih := cp_upd hc n
    show cp (fun j => D j || decide (j = c)) n + (D n || decide (n = c)).toNat = cp D n + (D n).toNat + _
    rw [ih]
    by_cases e : n = c
    · rw [e, hc, decide_eq_true rfl, if_neg (by omega), if_pos (by omega)]
      rfl
    · rw [decide_eq_false e, Bool.or_false]
      by_cases e2 : c < n
      · rw [if_pos e2, if_pos (by omega)]
        omega
      · rw [if_neg e2, if_neg (by omega)]
        omega
/-- a list in order, by its set -/
theorem nt_upd {D : Nat → Bool} {c N i : Nat} (hc : D c = false) (hN : c < N) (hi : i < cp D N + 1) : nt (fun j => D j || decide (j = c)) i = if i < cp D c then nt D i else if i = cp D c then c else nt D (i - 1) := by
  have hle := cp_le2 (p := D) (show c ≤ N by omega)
  have self : ∀ v, (D v || decide (v = c)) = true → cp (fun j => D j || decide (j = c)) v = i → nt (fun j => D j || decide (j = c)) i = v := by
    intro v hv hv2
    rw [← hv2]
    exact nt_cp (p := fun j => D j || decide (j = c)) hv
  by_cases h1 : i < cp D c
  · rw [if_pos h1]
    obtain ⟨k1, k2, k3⟩ := nt_ok c h1
    refine self _ (by rw [k2]; rfl) ?_
    rw [cp_upd hc, if_neg (by omega), k3]
    rfl
  · rw [if_neg h1]
    by_cases h2 : i = cp D c
    · rw [if_pos h2]
      refine self _ (by rw [decide_eq_true rfl, Bool.or_true]) ?_
      rw [cp_upd hc, if_neg (by omega), h2]
      rfl
    · rw [if_neg h2]
      obtain ⟨k1, k2, k3⟩ := nt_ok (p := D) N (i := i - 1) (by omega)
      have k4 : ¬ nt D (i - 1) < c := by
        rw [nt_lt (D := D) (N := N) (by omega)]
        omega
      have k5 : nt D (i - 1) ≠ c := by
        intro e
        rw [e, hc] at k2
        cases k2
      refine self _ (by rw [k2]; rfl) ?_
      rw [cp_upd hc, if_pos (by omega), k3]
      omega
def BR (σ : zS) (D : Nat → Bool) : Prop := gI σ 79 5 = Int32.ofInt (cp D 2400) ∧ (∀ i, i < cp D 2400 → gA σ 83 i = Int32.ofInt (nt D i)) ∧ ∀ c, D c = true → c < 2400
/-- nothing but the list of what breaks has changed -/
def LB (σ τ : zS) : Prop := fz 79 84 σ τ ∧ gI τ 79 0 = gI σ 79 0 ∧ gA τ 80 = gA σ 80 ∧ gA τ 81 = gA σ 81 ∧ gB τ 82 = gB σ 82
theorem LB_A {σ τ : zS} {g : Nat → Int32} (h : LB σ τ) : LB σ (sA τ 83 g) := ⟨fz_trans h.1 (fz_sA (by omega)), h.2.1, h.2.2.1, h.2.2.2.1, h.2.2.2.2⟩
theorem LB_I {σ τ : zS} {x : Int32} (h : LB σ τ) : LB σ (sI τ 79 5 x) := ⟨fz_trans h.1 (fz_sI (by omega)), by rw [gI_sI, if_neg (by omega)]; exact h.2.1, h.2.2.1, h.2.2.2.1, h.2.2.2.2⟩
theorem LB_trans {σ τ ρ : zS} (h : LB σ τ) (g : LB τ ρ) : LB σ ρ := ⟨fz_trans h.1 g.1, g.2.1.trans h.2.1, g.2.2.1.trans h.2.2.1, g.2.2.2.1.trans h.2.2.2.1, g.2.2.2.2.trans h.2.2.2.2⟩
theorem u_order {σ : zS} {c : Nat} {D : Nat → Bool} {Q : zQ} (hl : LStory σ) (hb : BR σ D) (hc : c < 2400) (h12 : cp D 2400 < 12) (hQ : ∀ τ, LB σ τ → BR τ (fun j => D j || decide (j = c)) → Q (.inl none) (hOf τ)) : zW zP 154 [.ref 79, .int (Int32.ofInt c)] (hOf σ) Q := by
  have hle := cp_le2 (p := D) (show c ≤ 2400 by omega)
  have lb0 : LB σ σ := ⟨fz_refl, rfl, rfl, rfl, rfl⟩
  have hnt : ∀ i, i < cp D 2400 → nt D i < 2400 := fun i hi => (nt_ok 2400 hi).1
  rw [zWE]
  simp -implicitDefEqProofs only [zx_iconst, zx_bipush, zx_sipush, zx_lconst, zx_ldc, zx_ldcS, zx_ldc_w, zx_ldc2_w, zx_iload, zx_lload, zx_aload, zx_istore_n, zx_istore, zx_lstore_n, zx_lstore, zx_astore_n, zx_astore, zx_iinc, zx_iadd, zx_isub, zx_imul, zx_iand, zx_ior, zx_ixor, zx_ishl, zx_ishr, zx_iushr, zx_idiv, zx_irem, zx_ineg, zx_ladd, zx_lsub, zx_land, zx_lor, zx_lxor, zx_lneg, zx_lshl, zx_lushr, zx_i2l, zx_l2i, zx_lcmp, zx_dup, zx_dup2, zx_pop, zx_goto, zx_if_eq, zx_if_ne, zx_if_lt, zx_if_ge, zx_if_gt, zx_if_le, zx_icmp_eq, zx_icmp_ne, zx_icmp_lt, zx_icmp_ge, zx_icmp_gt, zx_icmp_le, zx_getfield, zx_putfield, zx_iaload, zx_laload, zx_aaload, zx_iastore, zx_lastore, zx_arraylength, zx_ireturn, zx_lreturn, zx_areturn, zx_return, zx_athrow, zx_static0, zx_static1, zx_virt1, zx_static2, zx_virt2, zx_static3, zx_virt3, zx_static4, zx_virt4, zx_static5, zx_virt5, zx_static6, zx_virt6, zx_static7, zx_virt7, zx_cpI, zx_cpL, ↓cpI, ↓cpL, zx_slen, zx_schr, zx_tsw, zx_spec3, new_X, zx_new1, zrun_nil, zrun_cons, ↓zgi_h, ↓zgi_n, ↓zgl_h, ↓zgl_n, ↓zgr_h, ↓zgr_n, zset1, zset2, zins_nil, zins_c, f3, cat_i, cat_l, cat_r, List.filter_cons, List.filter_nil, Bool.false_eq_true, l_of0, lv_args, Nat.reduceBEq, Nat.reduceAdd, Nat.reduceLeDiff, Nat.reduceLT, Bool.not_true, Bool.not_false, Bool.and_true, Bool.true_and, Bool.and_false, Bool.false_and, Nat.reduceEqDiff, reduceIte, List.contains_cons, List.contains_nil, Bool.or_false, Bool.or_true, Bool.false_or, Bool.true_or, Fin.isValue, Fin.val_zero, Fin.val_one, Fin.val_two, Fin.reduceFinMk, Option.toList_some, Option.toList_none, List.nil_append, List.cons_append, zwt_nil, zwt_i, zwt_l, zwt_r, zthr_nil, List.isEmpty_nil, zcE, ↓ar_k, lgc0, true_and, and_true, true_implies, implies_true, false_implies, forall_const, i_len, ob_0, ob_1, ↓bI_01, bI_0, not_true_eq_false, not_false_eq_true, Bool.not_eq_false, Bool.not_eq_true, ia_add, ia_sub, ia_mul, ia_neg, ↓ldI, ↓ldL, zaI_c, zaL_c, ↓zlen_I, ↓zlen_L, ↓stI, ↓stL, gD_sI, gN_sI, gI_sI, gJ_sI, gR_sI, gA_sI, gB_sI, gT_sI, gD_sJ, gN_sJ, gI_sJ, gJ_sJ, gR_sJ, gA_sJ, gB_sJ, gT_sJ, gD_sR, gN_sR, gI_sR, gJ_sR, gR_sR, gA_sR, gB_sR, gT_sR, gD_sA, gN_sA, gI_sA, gJ_sA, gR_sA, gA_sA, gB_sA, gT_sA, gD_sB, gN_sB, gI_sB, gJ_sB, gR_sB, gA_sB, gB_sB, gT_sB, zx_il0, zx_il1, zx_il2, zx_il3, zx_ll0, zx_ll1, zx_ll2, zx_ll3, zx_al0, zx_al1, zx_al2, zx_al3, e_has, e_bA, e_mn, e_mx, e_pcI, e_pcL, e_low, zml_154, zg154_0, zb154_0, zb154_4, zg154_23, zb154_23, zg154_38, zb154_38, zg154_39, zb154_39, zg154_47, zb154_47, zb154_61, zg154_86, zb154_86, zg154_103, zb154_103, zmc_154, zms_154, zow_154, zhd_154, ↓gf_7_4, ↓gf_7_5, ↓pp_7_5, show (Int8.ofInt 12).toInt32 = Int32.ofInt 12 from rfl, show ztg 19 4 = 23 from rfl, show ztg 31 7 = 38 from rfl, show ztg 35 4 = 39 from rfl, show ztg 44 (-40) = 4 from rfl, show ztg 53 50 = 103 from rfl, show ztg 63 23 = 86 from rfl, show ztg 83 (-22) = 61 from rfl, show ztg 9 38 = 47 from rfl, LStory_d hl, LStory_r1 hl, LStory_k1 hl, LStory_n1 hl, LStory_r2 hl, LStory_k2 hl, LStory_n2 hl, LStory_r3 hl, LStory_k3 hl, LStory_n3 hl, LStory_r4 hl, LStory_k4 hl, LStory_n4 hl]
  have key2 : D c = false → ∀ (d : Nat) (g : Nat → Int32), cp D c + d ≤ cp D 2400 → (∀ j, j ≤ cp D 2400 → g j = if cp D c + d < j then Int32.ofInt (nt D (j - 1)) else gA σ 83 j) → zfp zP (zcall zP 154) 154 Q 61 [(0, .ref 79), (1, .int (Int32.ofInt c)), (2, .int (Int32.ofInt (cp D c))), (3, .int (Int32.ofInt ((cp D c + d : Nat) : Int)))] [] (hOf (sA σ 83 g)) 0 0 := by
    intro hD d
    induction d with
    | zero =>
      intro g hd hg
      rw [zg154_61]
      simp -implicitDefEqProofs only [zx_iconst, zx_bipush, zx_sipush, zx_lconst, zx_ldc, zx_ldcS, zx_ldc_w, zx_ldc2_w, zx_iload, zx_lload, zx_aload, zx_istore_n, zx_istore, zx_lstore_n, zx_lstore, zx_astore_n, zx_astore, zx_iinc, zx_iadd, zx_isub, zx_imul, zx_iand, zx_ior, zx_ixor, zx_ishl, zx_ishr, zx_iushr, zx_idiv, zx_irem, zx_ineg, zx_ladd, zx_lsub, zx_land, zx_lor, zx_lxor, zx_lneg, zx_lshl, zx_lushr, zx_i2l, zx_l2i, zx_lcmp, zx_dup, zx_dup2, zx_pop, zx_goto, zx_if_eq, zx_if_ne, zx_if_lt, zx_if_ge, zx_if_gt, zx_if_le, zx_icmp_eq, zx_icmp_ne, zx_icmp_lt, zx_icmp_ge, zx_icmp_gt, zx_icmp_le, zx_getfield, zx_putfield, zx_iaload, zx_laload, zx_aaload, zx_iastore, zx_lastore, zx_arraylength, zx_ireturn, zx_lreturn, zx_areturn, zx_return, zx_athrow, zx_static0, zx_static1, zx_virt1, zx_static2, zx_virt2, zx_static3, zx_virt3, zx_static4, zx_virt4, zx_static5, zx_virt5, zx_static6, zx_virt6, zx_static7, zx_virt7, zx_cpI, zx_cpL, ↓cpI, ↓cpL, zx_slen, zx_schr, zx_tsw, zx_spec3, new_X, zx_new1, zrun_nil, zrun_cons, ↓zgi_h, ↓zgi_n, ↓zgl_h, ↓zgl_n, ↓zgr_h, ↓zgr_n, zset1, zset2, zins_nil, zins_c, f3, cat_i, cat_l, cat_r, List.filter_cons, List.filter_nil, Bool.false_eq_true, l_of0, lv_args, Nat.reduceBEq, Nat.reduceAdd, Nat.reduceLeDiff, Nat.reduceLT, Bool.not_true, Bool.not_false, Bool.and_true, Bool.true_and, Bool.and_false, Bool.false_and, Nat.reduceEqDiff, reduceIte, List.contains_cons, List.contains_nil, Bool.or_false, Bool.or_true, Bool.false_or, Bool.true_or, Fin.isValue, Fin.val_zero, Fin.val_one, Fin.val_two, Fin.reduceFinMk, Option.toList_some, Option.toList_none, List.nil_append, List.cons_append, zwt_nil, zwt_i, zwt_l, zwt_r, zthr_nil, List.isEmpty_nil, zcE, ↓ar_k, lgc0, true_and, and_true, true_implies, implies_true, false_implies, forall_const, i_len, ob_0, ob_1, ↓bI_01, bI_0, not_true_eq_false, not_false_eq_true, Bool.not_eq_false, Bool.not_eq_true, ia_add, ia_sub, ia_mul, ia_neg, ↓ldI, ↓ldL, zaI_c, zaL_c, ↓zlen_I, ↓zlen_L, ↓stI, ↓stL, gD_sI, gN_sI, gI_sI, gJ_sI, gR_sI, gA_sI, gB_sI, gT_sI, gD_sJ, gN_sJ, gI_sJ, gJ_sJ, gR_sJ, gA_sJ, gB_sJ, gT_sJ, gD_sR, gN_sR, gI_sR, gJ_sR, gR_sR, gA_sR, gB_sR, gT_sR, gD_sA, gN_sA, gI_sA, gJ_sA, gR_sA, gA_sA, gB_sA, gT_sA, gD_sB, gN_sB, gI_sB, gJ_sB, gR_sB, gA_sB, gB_sB, gT_sB, zx_il0, zx_il1, zx_il2, zx_il3, zx_ll0, zx_ll1, zx_ll2, zx_ll3, zx_al0, zx_al1, zx_al2, zx_al3, e_has, e_bA, e_mn, e_mx, e_pcI, e_pcL, e_low, zml_154, zg154_0, zb154_0, zb154_4, zg154_23, zb154_23, zg154_38, zb154_38, zg154_39, zb154_39, zg154_47, zb154_47, zb154_61, zg154_86, zb154_86, zg154_103, zb154_103, zmc_154, zms_154, zow_154, zhd_154, ↓gf_7_4, ↓gf_7_5, ↓pp_7_5, show (Int8.ofInt 12).toInt32 = Int32.ofInt 12 from rfl, show ztg 19 4 = 23 from rfl, show ztg 31 7 = 38 from rfl, show ztg 35 4 = 39 from rfl, show ztg 44 (-40) = 4 from rfl, show ztg 53 50 = 103 from rfl, show ztg 63 23 = 86 from rfl, show ztg 83 (-22) = 61 from rfl, show ztg 9 38 = 47 from rfl, LStory_d hl, LStory_r1 hl, LStory_k1 hl, LStory_n1 hl, LStory_r2 hl, LStory_k2 hl, LStory_n2 hl, LStory_r3 hl, LStory_k3 hl, LStory_n3 hl, LStory_r4 hl, LStory_k4 hl, LStory_n4 hl, gA_self, sA_sA, hb.1]
      try simp (disch := omega) only [ii_lt, ii_le, ii_eq, ii_eq0, ii_lt0, ii_0lt, ii_le0, ii_0le, i_inT, i_natN, i_nat, ia_div, ia_rem, hs_ofI, i_1shl, i_or, i_bit, true_and, and_true, not_true_eq_false, not_false_eq_true, true_implies, false_implies, implies_true, Int.reduceLT, Int.reduceLE, Int.reduceEq, Int.reduceNeg, Int.toNat_natCast, Int.reduceToNat, Nat.reduceLeDiff, Nat.reduceAdd, tn_2, tn_2p, tn_48, tn_48r, tn_3, tn_3p, tn_3q, tn_p1, tn_d2, tn_12, ia_add, ia_sub, ia_mul]
      refine ⟨fun _ => ?_, fun z => by omega⟩
      have e1 := cp_upd hD 2400
      rw [if_pos hc] at e1
      refine hQ _ (LB_I (LB_A lb0)) ⟨?_, fun i hi => ?_, fun c2 hc2 => ?_⟩
      · rw [gI_sI, if_pos ⟨rfl, rfl⟩, e1]
        rfl
      · rw [e1] at hi
        rw [gA_sI, gA_self, nt_upd hD hc hi]
        show (if i = cp D c then _ else g i) = _
        by_cases e2 : i = cp D c
        · rw [if_pos e2, if_neg (by omega), if_pos e2]
        · rw [if_neg e2, if_neg e2, hg i (by omega)]
          by_cases e3 : i < cp D c
          · rw [if_neg (by omega), if_pos e3]
            exact hb.2.1 i (by omega)
          · rw [if_pos (by omega), if_neg e3]
      · rw [Bool.or_eq_true, decide_eq_true_eq] at hc2
        rcases hc2 with hc2 | hc2
        · exact hb.2.2 c2 hc2
        · omega
    | succ d ih =>
      intro g hd hg
      rw [zg154_61]
      simp -implicitDefEqProofs only [zx_iconst, zx_bipush, zx_sipush, zx_lconst, zx_ldc, zx_ldcS, zx_ldc_w, zx_ldc2_w, zx_iload, zx_lload, zx_aload, zx_istore_n, zx_istore, zx_lstore_n, zx_lstore, zx_astore_n, zx_astore, zx_iinc, zx_iadd, zx_isub, zx_imul, zx_iand, zx_ior, zx_ixor, zx_ishl, zx_ishr, zx_iushr, zx_idiv, zx_irem, zx_ineg, zx_ladd, zx_lsub, zx_land, zx_lor, zx_lxor, zx_lneg, zx_lshl, zx_lushr, zx_i2l, zx_l2i, zx_lcmp, zx_dup, zx_dup2, zx_pop, zx_goto, zx_if_eq, zx_if_ne, zx_if_lt, zx_if_ge, zx_if_gt, zx_if_le, zx_icmp_eq, zx_icmp_ne, zx_icmp_lt, zx_icmp_ge, zx_icmp_gt, zx_icmp_le, zx_getfield, zx_putfield, zx_iaload, zx_laload, zx_aaload, zx_iastore, zx_lastore, zx_arraylength, zx_ireturn, zx_lreturn, zx_areturn, zx_return, zx_athrow, zx_static0, zx_static1, zx_virt1, zx_static2, zx_virt2, zx_static3, zx_virt3, zx_static4, zx_virt4, zx_static5, zx_virt5, zx_static6, zx_virt6, zx_static7, zx_virt7, zx_cpI, zx_cpL, ↓cpI, ↓cpL, zx_slen, zx_schr, zx_tsw, zx_spec3, new_X, zx_new1, zrun_nil, zrun_cons, ↓zgi_h, ↓zgi_n, ↓zgl_h, ↓zgl_n, ↓zgr_h, ↓zgr_n, zset1, zset2, zins_nil, zins_c, f3, cat_i, cat_l, cat_r, List.filter_cons, List.filter_nil, Bool.false_eq_true, l_of0, lv_args, Nat.reduceBEq, Nat.reduceAdd, Nat.reduceLeDiff, Nat.reduceLT, Bool.not_true, Bool.not_false, Bool.and_true, Bool.true_and, Bool.and_false, Bool.false_and, Nat.reduceEqDiff, reduceIte, List.contains_cons, List.contains_nil, Bool.or_false, Bool.or_true, Bool.false_or, Bool.true_or, Fin.isValue, Fin.val_zero, Fin.val_one, Fin.val_two, Fin.reduceFinMk, Option.toList_some, Option.toList_none, List.nil_append, List.cons_append, zwt_nil, zwt_i, zwt_l, zwt_r, zthr_nil, List.isEmpty_nil, zcE, ↓ar_k, lgc0, true_and, and_true, true_implies, implies_true, false_implies, forall_const, i_len, ob_0, ob_1, ↓bI_01, bI_0, not_true_eq_false, not_false_eq_true, Bool.not_eq_false, Bool.not_eq_true, ia_add, ia_sub, ia_mul, ia_neg, ↓ldI, ↓ldL, zaI_c, zaL_c, ↓zlen_I, ↓zlen_L, ↓stI, ↓stL, gD_sI, gN_sI, gI_sI, gJ_sI, gR_sI, gA_sI, gB_sI, gT_sI, gD_sJ, gN_sJ, gI_sJ, gJ_sJ, gR_sJ, gA_sJ, gB_sJ, gT_sJ, gD_sR, gN_sR, gI_sR, gJ_sR, gR_sR, gA_sR, gB_sR, gT_sR, gD_sA, gN_sA, gI_sA, gJ_sA, gR_sA, gA_sA, gB_sA, gT_sA, gD_sB, gN_sB, gI_sB, gJ_sB, gR_sB, gA_sB, gB_sB, gT_sB, zx_il0, zx_il1, zx_il2, zx_il3, zx_ll0, zx_ll1, zx_ll2, zx_ll3, zx_al0, zx_al1, zx_al2, zx_al3, e_has, e_bA, e_mn, e_mx, e_pcI, e_pcL, e_low, zml_154, zg154_0, zb154_0, zb154_4, zg154_23, zb154_23, zg154_38, zb154_38, zg154_39, zb154_39, zg154_47, zb154_47, zb154_61, zg154_86, zb154_86, zg154_103, zb154_103, zmc_154, zms_154, zow_154, zhd_154, ↓gf_7_4, ↓gf_7_5, ↓pp_7_5, show (Int8.ofInt 12).toInt32 = Int32.ofInt 12 from rfl, show ztg 19 4 = 23 from rfl, show ztg 31 7 = 38 from rfl, show ztg 35 4 = 39 from rfl, show ztg 44 (-40) = 4 from rfl, show ztg 53 50 = 103 from rfl, show ztg 63 23 = 86 from rfl, show ztg 83 (-22) = 61 from rfl, show ztg 9 38 = 47 from rfl, LStory_d hl, LStory_r1 hl, LStory_k1 hl, LStory_n1 hl, LStory_r2 hl, LStory_k2 hl, LStory_n2 hl, LStory_r3 hl, LStory_k3 hl, LStory_n3 hl, LStory_r4 hl, LStory_k4 hl, LStory_n4 hl, gA_self, sA_sA, hb.1]
      try simp (disch := omega) only [ii_lt, ii_le, ii_eq, ii_eq0, ii_lt0, ii_0lt, ii_le0, ii_0le, i_inT, i_natN, i_nat, ia_div, ia_rem, hs_ofI, i_1shl, i_or, i_bit, true_and, and_true, not_true_eq_false, not_false_eq_true, true_implies, false_implies, implies_true, Int.reduceLT, Int.reduceLE, Int.reduceEq, Int.reduceNeg, Int.toNat_natCast, Int.reduceToNat, Nat.reduceLeDiff, Nat.reduceAdd, tn_2, tn_2p, tn_48, tn_48r, tn_3, tn_3p, tn_3q, tn_p1, tn_d2, tn_12, ia_add, ia_sub, ia_mul]
      refine ⟨fun z => by omega, fun _ => ?_⟩
      rw [show ((cp D c + (d + 1) : Nat) : Int) - 1 = ((cp D c + d : Nat) : Int) from by omega]
      try simp (disch := omega) only [ii_lt, ii_le, ii_eq, ii_eq0, ii_lt0, ii_0lt, ii_le0, ii_0le, i_inT, i_natN, i_nat, ia_div, ia_rem, hs_ofI, i_1shl, i_or, i_bit, true_and, and_true, not_true_eq_false, not_false_eq_true, true_implies, false_implies, implies_true, Int.reduceLT, Int.reduceLE, Int.reduceEq, Int.reduceNeg, Int.toNat_natCast, Int.reduceToNat, Nat.reduceLeDiff, Nat.reduceAdd, tn_2, tn_2p, tn_48, tn_48r, tn_3, tn_3p, tn_3q, tn_p1, tn_d2, tn_12, ia_add, ia_sub, ia_mul]
      rw [show ((cp D c + (d + 1) : Nat) : Int) + -1 = ((cp D c + d : Nat) : Int) from by omega]
      refine ih _ (by omega) ?_
      intro j hj
      show (if j = cp D c + (d + 1) then _ else g j) = _
      by_cases e2 : j = cp D c + (d + 1)
      · rw [if_pos e2, if_pos (by omega), hg _ (by omega), if_neg (by omega), hb.2.1 _ (by omega), e2]
        rfl
      · rw [if_neg e2, hg j hj]
        by_cases e3 : cp D c + (d + 1) < j
        · rw [if_pos e3, if_pos (by omega)]
        · rw [if_neg e3, if_neg (by omega)]
  have key : ∀ i : Nat, i ≤ cp D 2400 → (∀ j, j < i → nt D j ≠ c) → zfp zP (zcall zP 154) 154 Q 4 [(0, .ref 79), (1, .int (Int32.ofInt c)), (2, .int (Int32.ofInt ((min i (cp D c) : Nat) : Int))), (3, .int (Int32.ofInt i))] [] (hOf σ) 0 0 := by
    refine bk _ ?_
    intro i hi ih hno
    rw [zg154_4]
    simp -implicitDefEqProofs only [zx_iconst, zx_bipush, zx_sipush, zx_lconst, zx_ldc, zx_ldcS, zx_ldc_w, zx_ldc2_w, zx_iload, zx_lload, zx_aload, zx_istore_n, zx_istore, zx_lstore_n, zx_lstore, zx_astore_n, zx_astore, zx_iinc, zx_iadd, zx_isub, zx_imul, zx_iand, zx_ior, zx_ixor, zx_ishl, zx_ishr, zx_iushr, zx_idiv, zx_irem, zx_ineg, zx_ladd, zx_lsub, zx_land, zx_lor, zx_lxor, zx_lneg, zx_lshl, zx_lushr, zx_i2l, zx_l2i, zx_lcmp, zx_dup, zx_dup2, zx_pop, zx_goto, zx_if_eq, zx_if_ne, zx_if_lt, zx_if_ge, zx_if_gt, zx_if_le, zx_icmp_eq, zx_icmp_ne, zx_icmp_lt, zx_icmp_ge, zx_icmp_gt, zx_icmp_le, zx_getfield, zx_putfield, zx_iaload, zx_laload, zx_aaload, zx_iastore, zx_lastore, zx_arraylength, zx_ireturn, zx_lreturn, zx_areturn, zx_return, zx_athrow, zx_static0, zx_static1, zx_virt1, zx_static2, zx_virt2, zx_static3, zx_virt3, zx_static4, zx_virt4, zx_static5, zx_virt5, zx_static6, zx_virt6, zx_static7, zx_virt7, zx_cpI, zx_cpL, ↓cpI, ↓cpL, zx_slen, zx_schr, zx_tsw, zx_spec3, new_X, zx_new1, zrun_nil, zrun_cons, ↓zgi_h, ↓zgi_n, ↓zgl_h, ↓zgl_n, ↓zgr_h, ↓zgr_n, zset1, zset2, zins_nil, zins_c, f3, cat_i, cat_l, cat_r, List.filter_cons, List.filter_nil, Bool.false_eq_true, l_of0, lv_args, Nat.reduceBEq, Nat.reduceAdd, Nat.reduceLeDiff, Nat.reduceLT, Bool.not_true, Bool.not_false, Bool.and_true, Bool.true_and, Bool.and_false, Bool.false_and, Nat.reduceEqDiff, reduceIte, List.contains_cons, List.contains_nil, Bool.or_false, Bool.or_true, Bool.false_or, Bool.true_or, Fin.isValue, Fin.val_zero, Fin.val_one, Fin.val_two, Fin.reduceFinMk, Option.toList_some, Option.toList_none, List.nil_append, List.cons_append, zwt_nil, zwt_i, zwt_l, zwt_r, zthr_nil, List.isEmpty_nil, zcE, ↓ar_k, lgc0, true_and, and_true, true_implies, implies_true, false_implies, forall_const, i_len, ob_0, ob_1, ↓bI_01, bI_0, not_true_eq_false, not_false_eq_true, Bool.not_eq_false, Bool.not_eq_true, ia_add, ia_sub, ia_mul, ia_neg, ↓ldI, ↓ldL, zaI_c, zaL_c, ↓zlen_I, ↓zlen_L, ↓stI, ↓stL, gD_sI, gN_sI, gI_sI, gJ_sI, gR_sI, gA_sI, gB_sI, gT_sI, gD_sJ, gN_sJ, gI_sJ, gJ_sJ, gR_sJ, gA_sJ, gB_sJ, gT_sJ, gD_sR, gN_sR, gI_sR, gJ_sR, gR_sR, gA_sR, gB_sR, gT_sR, gD_sA, gN_sA, gI_sA, gJ_sA, gR_sA, gA_sA, gB_sA, gT_sA, gD_sB, gN_sB, gI_sB, gJ_sB, gR_sB, gA_sB, gB_sB, gT_sB, zx_il0, zx_il1, zx_il2, zx_il3, zx_ll0, zx_ll1, zx_ll2, zx_ll3, zx_al0, zx_al1, zx_al2, zx_al3, e_has, e_bA, e_mn, e_mx, e_pcI, e_pcL, e_low, zml_154, zg154_0, zb154_0, zb154_4, zg154_23, zb154_23, zg154_38, zb154_38, zg154_39, zb154_39, zg154_47, zb154_47, zb154_61, zg154_86, zb154_86, zg154_103, zb154_103, zmc_154, zms_154, zow_154, zhd_154, ↓gf_7_4, ↓gf_7_5, ↓pp_7_5, show (Int8.ofInt 12).toInt32 = Int32.ofInt 12 from rfl, show ztg 19 4 = 23 from rfl, show ztg 31 7 = 38 from rfl, show ztg 35 4 = 39 from rfl, show ztg 44 (-40) = 4 from rfl, show ztg 53 50 = 103 from rfl, show ztg 63 23 = 86 from rfl, show ztg 83 (-22) = 61 from rfl, show ztg 9 38 = 47 from rfl, LStory_d hl, LStory_r1 hl, LStory_k1 hl, LStory_n1 hl, LStory_r2 hl, LStory_k2 hl, LStory_n2 hl, LStory_r3 hl, LStory_k3 hl, LStory_n3 hl, LStory_r4 hl, LStory_k4 hl, LStory_n4 hl, hb.1]
    try simp (disch := omega) only [ii_lt, ii_le, ii_eq, ii_eq0, ii_lt0, ii_0lt, ii_le0, ii_0le, i_inT, i_natN, i_nat, ia_div, ia_rem, hs_ofI, i_1shl, i_or, i_bit, true_and, and_true, not_true_eq_false, not_false_eq_true, true_implies, false_implies, implies_true, Int.reduceLT, Int.reduceLE, Int.reduceEq, Int.reduceNeg, Int.toNat_natCast, Int.reduceToNat, Nat.reduceLeDiff, Nat.reduceAdd, tn_2, tn_2p, tn_48, tn_48r, tn_3, tn_3p, tn_3q, tn_p1, tn_d2, tn_12, ia_add, ia_sub, ia_mul]
    refine ⟨fun c1 => ?_, fun c1 => ?_⟩
    · have hD : D c = false := by
        cases e : D c with
        | false => rfl
        | true =>
          have h1 := nt_cp e
          have h2 := cp_le2 (p := D) (show c + 1 ≤ 2400 by omega)
          rw [cp_t e] at h2
          exact absurd h1 (hno (cp D c) (by omega))
      refine ⟨fun z => by omega, fun _ => ?_⟩
      have := key2 hD (cp D 2400 - cp D c) (gA σ 83) (by omega) (fun j hj => by rw [if_neg (by omega)])
      rw [sA_same rfl] at this
      rw [show cp D c + (cp D 2400 - cp D c) = cp D 2400 from by omega] at this
      rw [show min i (cp D c) = cp D c from by omega]
      exact zjf rfl this
    · have hb2 := hb.2.1 i (by omega)
      have hn := hnt i (by omega)
      have hlt := nt_lt (D := D) (j := i) (n := c) (N := 2400) (by omega)
      try simp (disch := omega) only [ii_lt, ii_le, ii_eq, ii_eq0, ii_lt0, ii_0lt, ii_le0, ii_0le, i_inT, i_natN, i_nat, ia_div, ia_rem, hs_ofI, i_1shl, i_or, i_bit, true_and, and_true, not_true_eq_false, not_false_eq_true, true_implies, false_implies, implies_true, Int.reduceLT, Int.reduceLE, Int.reduceEq, Int.reduceNeg, Int.toNat_natCast, Int.reduceToNat, Nat.reduceLeDiff, Nat.reduceAdd, tn_2, tn_2p, tn_48, tn_48r, tn_3, tn_3p, tn_3q, tn_p1, tn_d2, tn_12, ia_add, ia_sub, ia_mul, hb2]
      try simp only [hb2]
      try simp (disch := omega) only [ii_lt, ii_le, ii_eq, ii_eq0, ii_lt0, ii_0lt, ii_le0, ii_0le, i_inT, i_natN, i_nat, ia_div, ia_rem, hs_ofI, i_1shl, i_or, i_bit, true_and, and_true, not_true_eq_false, not_false_eq_true, true_implies, false_implies, implies_true, Int.reduceLT, Int.reduceLE, Int.reduceEq, Int.reduceNeg, Int.toNat_natCast, Int.reduceToNat, Nat.reduceLeDiff, Nat.reduceAdd, tn_2, tn_2p, tn_48, tn_48r, tn_3, tn_3p, tn_3q, tn_p1, tn_d2, tn_12, ia_add, ia_sub, ia_mul]
      refine ⟨fun c2 => ?_, fun c2 => ?_⟩
      · have ih := ih (by omega) (fun j hj => by
          by_cases e : j = i
          · rw [e]
            omega
          · exact hno j (by omega))
        refine ⟨fun c3 => ?_, fun c3 => ?_⟩
        · rw [show min (i + 1) (cp D c) = min i (cp D c) from by omega] at ih
          rw [show ((min i (cp D c) : Nat) : Int) + 0 = ((min i (cp D c) : Nat) : Int) from by omega]
          exact zjf rfl ih
        · rw [show ((min (i + 1) (cp D c) : Nat) : Int) = ((min i (cp D c) : Nat) : Int) + 1 from by omega] at ih
          exact zjf rfl ih
      · have hD : D c = true := by
          rw [← show nt D i = c from by omega]
          exact (nt_ok 2400 (by omega)).2.1
        refine hQ σ lb0 ?_
        have e : (fun j => D j || decide (j = c)) = D := by
          funext j
          by_cases e2 : j = c
          · rw [e2, hD]
            rfl
          · rw [decide_eq_false e2, Bool.or_false]
        rw [e]
        exact hb
  have := key 0 (by omega) (fun j hj => by omega)
  rw [show min 0 (cp D c) = 0 from by omega] at this
  exact this
theorem u_awith {σ : zS} {i x : Nat} {F : Nat → Option Nat} {Q : zQ} (hl : LStory σ) (hi : i < 12) (hx : x ≤ 100) (hF : ∀ a, a < 48 → gA σ 81 (i * 48 + a) = Int32.ofInt (fr 268435456 (F a))) (hF2 : ∀ a x, F a = some x → x ≤ 100) (hQ : Q (.inl (some (.int (Int32.ofInt (oI (lw (fun a => a < 48 ∧ F a = some x))))))) (hOf σ)) : zW zP 153 [.ref 79, .int (Int32.ofInt i), .int (Int32.ofInt x)] (hOf σ) Q := by
  rw [zWE]
  simp -implicitDefEqProofs only [zx_iconst, zx_bipush, zx_sipush, zx_lconst, zx_ldc, zx_ldcS, zx_ldc_w, zx_ldc2_w, zx_iload, zx_lload, zx_aload, zx_istore_n, zx_istore, zx_lstore_n, zx_lstore, zx_astore_n, zx_astore, zx_iinc, zx_iadd, zx_isub, zx_imul, zx_iand, zx_ior, zx_ixor, zx_ishl, zx_ishr, zx_iushr, zx_idiv, zx_irem, zx_ineg, zx_ladd, zx_lsub, zx_land, zx_lor, zx_lxor, zx_lneg, zx_lshl, zx_lushr, zx_i2l, zx_l2i, zx_lcmp, zx_dup, zx_dup2, zx_pop, zx_goto, zx_if_eq, zx_if_ne, zx_if_lt, zx_if_ge, zx_if_gt, zx_if_le, zx_icmp_eq, zx_icmp_ne, zx_icmp_lt, zx_icmp_ge, zx_icmp_gt, zx_icmp_le, zx_getfield, zx_putfield, zx_iaload, zx_laload, zx_aaload, zx_iastore, zx_lastore, zx_arraylength, zx_ireturn, zx_lreturn, zx_areturn, zx_return, zx_athrow, zx_static0, zx_static1, zx_virt1, zx_static2, zx_virt2, zx_static3, zx_virt3, zx_static4, zx_virt4, zx_static5, zx_virt5, zx_static6, zx_virt6, zx_static7, zx_virt7, zx_cpI, zx_cpL, ↓cpI, ↓cpL, zx_slen, zx_schr, zx_tsw, zx_spec3, new_X, zx_new1, zrun_nil, zrun_cons, ↓zgi_h, ↓zgi_n, ↓zgl_h, ↓zgl_n, ↓zgr_h, ↓zgr_n, zset1, zset2, zins_nil, zins_c, f3, cat_i, cat_l, cat_r, List.filter_cons, List.filter_nil, Bool.false_eq_true, l_of0, lv_args, Nat.reduceBEq, Nat.reduceAdd, Nat.reduceLeDiff, Nat.reduceLT, Bool.not_true, Bool.not_false, Bool.and_true, Bool.true_and, Bool.and_false, Bool.false_and, Nat.reduceEqDiff, reduceIte, List.contains_cons, List.contains_nil, Bool.or_false, Bool.or_true, Bool.false_or, Bool.true_or, Fin.isValue, Fin.val_zero, Fin.val_one, Fin.val_two, Fin.reduceFinMk, Option.toList_some, Option.toList_none, List.nil_append, List.cons_append, zwt_nil, zwt_i, zwt_l, zwt_r, zthr_nil, List.isEmpty_nil, zcE, ↓ar_k, lgc0, true_and, and_true, true_implies, implies_true, false_implies, forall_const, i_len, ob_0, ob_1, ↓bI_01, bI_0, not_true_eq_false, not_false_eq_true, Bool.not_eq_false, Bool.not_eq_true, ia_add, ia_sub, ia_mul, ia_neg, ↓ldI, ↓ldL, zaI_c, zaL_c, ↓zlen_I, ↓zlen_L, ↓stI, ↓stL, gD_sI, gN_sI, gI_sI, gJ_sI, gR_sI, gA_sI, gB_sI, gT_sI, gD_sJ, gN_sJ, gI_sJ, gJ_sJ, gR_sJ, gA_sJ, gB_sJ, gT_sJ, gD_sR, gN_sR, gI_sR, gJ_sR, gR_sR, gA_sR, gB_sR, gT_sR, gD_sA, gN_sA, gI_sA, gJ_sA, gR_sA, gA_sA, gB_sA, gT_sA, gD_sB, gN_sB, gI_sB, gJ_sB, gR_sB, gA_sB, gB_sB, gT_sB, zx_il0, zx_il1, zx_il2, zx_il3, zx_ll0, zx_ll1, zx_ll2, zx_ll3, zx_al0, zx_al1, zx_al2, zx_al3, e_has, e_bA, e_mn, e_mx, e_pcI, e_pcL, e_low, zml_153, zg153_0, zb153_0, zb153_2, zg153_29, zb153_29, zg153_35, zb153_35, zmc_153, zms_153, zow_153, zhd_153, ↓gf_7_2, show (Int8.ofInt 48).toInt32 = Int32.ofInt 48 from rfl, show ztg 24 5 = 29 from rfl, show ztg 32 (-30) = 2 from rfl, show ztg 5 30 = 35 from rfl, show ztg 9 26 = 35 from rfl, LStory_d hl, LStory_r1 hl, LStory_k1 hl, LStory_n1 hl, LStory_r2 hl, LStory_k2 hl, LStory_n2 hl, LStory_r3 hl, LStory_k3 hl, LStory_n3 hl, LStory_r4 hl, LStory_k4 hl, LStory_n4 hl]
  have key : ∀ n : Nat, n ≤ 48 → (∀ a, a < n → F a ≠ some x) → zfp zP (zcall zP 153) 153 Q 2 [(0, .ref 79), (1, .int (Int32.ofInt i)), (2, .int (Int32.ofInt x)), (3, .int (Int32.ofInt n))] [] (hOf σ) 0 0 := by
    refine bk _ ?_
    intro n hn ih hno
    rw [zg153_2]
    simp -implicitDefEqProofs only [zx_iconst, zx_bipush, zx_sipush, zx_lconst, zx_ldc, zx_ldcS, zx_ldc_w, zx_ldc2_w, zx_iload, zx_lload, zx_aload, zx_istore_n, zx_istore, zx_lstore_n, zx_lstore, zx_astore_n, zx_astore, zx_iinc, zx_iadd, zx_isub, zx_imul, zx_iand, zx_ior, zx_ixor, zx_ishl, zx_ishr, zx_iushr, zx_idiv, zx_irem, zx_ineg, zx_ladd, zx_lsub, zx_land, zx_lor, zx_lxor, zx_lneg, zx_lshl, zx_lushr, zx_i2l, zx_l2i, zx_lcmp, zx_dup, zx_dup2, zx_pop, zx_goto, zx_if_eq, zx_if_ne, zx_if_lt, zx_if_ge, zx_if_gt, zx_if_le, zx_icmp_eq, zx_icmp_ne, zx_icmp_lt, zx_icmp_ge, zx_icmp_gt, zx_icmp_le, zx_getfield, zx_putfield, zx_iaload, zx_laload, zx_aaload, zx_iastore, zx_lastore, zx_arraylength, zx_ireturn, zx_lreturn, zx_areturn, zx_return, zx_athrow, zx_static0, zx_static1, zx_virt1, zx_static2, zx_virt2, zx_static3, zx_virt3, zx_static4, zx_virt4, zx_static5, zx_virt5, zx_static6, zx_virt6, zx_static7, zx_virt7, zx_cpI, zx_cpL, ↓cpI, ↓cpL, zx_slen, zx_schr, zx_tsw, zx_spec3, new_X, zx_new1, zrun_nil, zrun_cons, ↓zgi_h, ↓zgi_n, ↓zgl_h, ↓zgl_n, ↓zgr_h, ↓zgr_n, zset1, zset2, zins_nil, zins_c, f3, cat_i, cat_l, cat_r, List.filter_cons, List.filter_nil, Bool.false_eq_true, l_of0, lv_args, Nat.reduceBEq, Nat.reduceAdd, Nat.reduceLeDiff, Nat.reduceLT, Bool.not_true, Bool.not_false, Bool.and_true, Bool.true_and, Bool.and_false, Bool.false_and, Nat.reduceEqDiff, reduceIte, List.contains_cons, List.contains_nil, Bool.or_false, Bool.or_true, Bool.false_or, Bool.true_or, Fin.isValue, Fin.val_zero, Fin.val_one, Fin.val_two, Fin.reduceFinMk, Option.toList_some, Option.toList_none, List.nil_append, List.cons_append, zwt_nil, zwt_i, zwt_l, zwt_r, zthr_nil, List.isEmpty_nil, zcE, ↓ar_k, lgc0, true_and, and_true, true_implies, implies_true, false_implies, forall_const, i_len, ob_0, ob_1, ↓bI_01, bI_0, not_true_eq_false, not_false_eq_true, Bool.not_eq_false, Bool.not_eq_true, ia_add, ia_sub, ia_mul, ia_neg, ↓ldI, ↓ldL, zaI_c, zaL_c, ↓zlen_I, ↓zlen_L, ↓stI, ↓stL, gD_sI, gN_sI, gI_sI, gJ_sI, gR_sI, gA_sI, gB_sI, gT_sI, gD_sJ, gN_sJ, gI_sJ, gJ_sJ, gR_sJ, gA_sJ, gB_sJ, gT_sJ, gD_sR, gN_sR, gI_sR, gJ_sR, gR_sR, gA_sR, gB_sR, gT_sR, gD_sA, gN_sA, gI_sA, gJ_sA, gR_sA, gA_sA, gB_sA, gT_sA, gD_sB, gN_sB, gI_sB, gJ_sB, gR_sB, gA_sB, gB_sB, gT_sB, zx_il0, zx_il1, zx_il2, zx_il3, zx_ll0, zx_ll1, zx_ll2, zx_ll3, zx_al0, zx_al1, zx_al2, zx_al3, e_has, e_bA, e_mn, e_mx, e_pcI, e_pcL, e_low, zml_153, zg153_0, zb153_0, zb153_2, zg153_29, zb153_29, zg153_35, zb153_35, zmc_153, zms_153, zow_153, zhd_153, ↓gf_7_2, show (Int8.ofInt 48).toInt32 = Int32.ofInt 48 from rfl, show ztg 24 5 = 29 from rfl, show ztg 32 (-30) = 2 from rfl, show ztg 5 30 = 35 from rfl, show ztg 9 26 = 35 from rfl, LStory_d hl, LStory_r1 hl, LStory_k1 hl, LStory_n1 hl, LStory_r2 hl, LStory_k2 hl, LStory_n2 hl, LStory_r3 hl, LStory_k3 hl, LStory_n3 hl, LStory_r4 hl, LStory_k4 hl, LStory_n4 hl]
    try simp (disch := omega) only [ii_lt, ii_le, ii_eq, ii_eq0, ii_lt0, ii_0lt, ii_le0, ii_0le, i_inT, i_natN, i_nat, ia_div, ia_rem, hs_ofI, i_1shl, i_or, i_bit, true_and, and_true, not_true_eq_false, not_false_eq_true, true_implies, false_implies, implies_true, Int.reduceLT, Int.reduceLE, Int.reduceEq, Int.reduceNeg, Int.toNat_natCast, Int.reduceToNat, Nat.reduceLeDiff, Nat.reduceAdd, tn_2, tn_2p, tn_48, tn_48r, tn_3, tn_3p, tn_3q, tn_p1, tn_d2, tn_12, ia_add, ia_sub, ia_mul]
    refine ⟨fun c => ?_, fun c => ⟨fun c2 => by omega, fun c2 => ?_⟩⟩
    · rw [show lw (fun a => a < 48 ∧ F a = some x) = none from lw_none.2 (fun a ⟨z1, z2⟩ => hno a (by omega) z2)] at hQ
      exact hQ
    · have hf := hF n (by omega)
      try simp (disch := omega) only [ii_lt, ii_le, ii_eq, ii_eq0, ii_lt0, ii_0lt, ii_le0, ii_0le, i_inT, i_natN, i_nat, ia_div, ia_rem, hs_ofI, i_1shl, i_or, i_bit, true_and, and_true, not_true_eq_false, not_false_eq_true, true_implies, false_implies, implies_true, Int.reduceLT, Int.reduceLE, Int.reduceEq, Int.reduceNeg, Int.toNat_natCast, Int.reduceToNat, Nat.reduceLeDiff, Nat.reduceAdd, tn_2, tn_2p, tn_48, tn_48r, tn_3, tn_3p, tn_3q, tn_p1, tn_d2, tn_12, ia_add, ia_sub, ia_mul, hf]
      try simp only [hf]
      have go : F n ≠ some x → zfp zP (zcall zP 153) 153 Q 2 [(0, .ref 79), (1, .int (Int32.ofInt i)), (2, .int (Int32.ofInt x)), (3, .int (Int32.ofInt ((n : Int) + 1)))] [] (hOf σ) 0 0 := by
        intro hne
        refine ih (by omega) (fun a ha => ?_)
        by_cases e : a = n
        · rw [e]
          exact hne
        · exact hno a (by omega)
      cases e : F n with
      | none =>
        simp only [show fr 268435456 none = 268435456 from rfl]
        try simp (disch := omega) only [ii_lt, ii_le, ii_eq, ii_eq0, ii_lt0, ii_0lt, ii_le0, ii_0le, i_inT, i_natN, i_nat, ia_div, ia_rem, hs_ofI, i_1shl, i_or, i_bit, true_and, and_true, not_true_eq_false, not_false_eq_true, true_implies, false_implies, implies_true, Int.reduceLT, Int.reduceLE, Int.reduceEq, Int.reduceNeg, Int.toNat_natCast, Int.reduceToNat, Nat.reduceLeDiff, Nat.reduceAdd, tn_2, tn_2p, tn_48, tn_48r, tn_3, tn_3p, tn_3q, tn_p1, tn_d2, tn_12, ia_add, ia_sub, ia_mul]
        refine ⟨fun _ => go (by rw [e]; simp), fun z => by omega⟩
      | some y =>
        have hy := hF2 n y e
        simp only [show fr 268435456 (some y) = y from rfl]
        try simp (disch := omega) only [ii_lt, ii_le, ii_eq, ii_eq0, ii_lt0, ii_0lt, ii_le0, ii_0le, i_inT, i_natN, i_nat, ia_div, ia_rem, hs_ofI, i_1shl, i_or, i_bit, true_and, and_true, not_true_eq_false, not_false_eq_true, true_implies, false_implies, implies_true, Int.reduceLT, Int.reduceLE, Int.reduceEq, Int.reduceNeg, Int.toNat_natCast, Int.reduceToNat, Nat.reduceLeDiff, Nat.reduceAdd, tn_2, tn_2p, tn_48, tn_48r, tn_3, tn_3p, tn_3q, tn_p1, tn_d2, tn_12, ia_add, ia_sub, ia_mul]
        refine ⟨fun c3 => go (by rw [e]; intro z; cases z; omega), fun c3 => ?_⟩
        rw [show lw (fun a => a < 48 ∧ F a = some x) = some n from lw_some.2 ⟨⟨by omega, by rw [e, show y = x from by omega]⟩, fun a ha z => hno a ha z.2⟩] at hQ
        exact hQ
  exact key 0 (by omega) (fun a ha => by omega)
theorem u_ahead {σ : zS} {t i b x : Nat} {T : Tw} {r : Rl} {F : Nat → Option Nat} {Q : zQ} (h : QC σ t T r) (hi : i < 12) (hb : b < 2 * nS T) (hx : x ≤ 100) (hF : ∀ a, a < 48 → gA σ 81 (i * 48 + a) = Int32.ofInt (fr 268435456 (F a))) (hF2 : ∀ a x, F a = some x → x ≤ 100 ∧ a < 2 * nS T) (hQ : Q (.inl (some (.int (Int32.ofInt (oI (lw (fun a => a < 48 ∧ oa (F a) (pc (nx T r) (-1) a b) = some x))))))) (hOf σ)) : zW zP 152 [.ref 79, .int (Int32.ofInt i), .int (Int32.ofInt b), .ref 55, .int (Int32.ofInt x)] (hOf σ) Q := by
  have lS := LA_Story (QC_A h)
  rw [zWE]
  simp -implicitDefEqProofs only [zx_iconst, zx_bipush, zx_sipush, zx_lconst, zx_ldc, zx_ldcS, zx_ldc_w, zx_ldc2_w, zx_iload, zx_lload, zx_aload, zx_istore_n, zx_istore, zx_lstore_n, zx_lstore, zx_astore_n, zx_astore, zx_iinc, zx_iadd, zx_isub, zx_imul, zx_iand, zx_ior, zx_ixor, zx_ishl, zx_ishr, zx_iushr, zx_idiv, zx_irem, zx_ineg, zx_ladd, zx_lsub, zx_land, zx_lor, zx_lxor, zx_lneg, zx_lshl, zx_lushr, zx_i2l, zx_l2i, zx_lcmp, zx_dup, zx_dup2, zx_pop, zx_goto, zx_if_eq, zx_if_ne, zx_if_lt, zx_if_ge, zx_if_gt, zx_if_le, zx_icmp_eq, zx_icmp_ne, zx_icmp_lt, zx_icmp_ge, zx_icmp_gt, zx_icmp_le, zx_getfield, zx_putfield, zx_iaload, zx_laload, zx_aaload, zx_iastore, zx_lastore, zx_arraylength, zx_ireturn, zx_lreturn, zx_areturn, zx_return, zx_athrow, zx_static0, zx_static1, zx_virt1, zx_static2, zx_virt2, zx_static3, zx_virt3, zx_static4, zx_virt4, zx_static5, zx_virt5, zx_static6, zx_virt6, zx_static7, zx_virt7, zx_cpI, zx_cpL, ↓cpI, ↓cpL, zx_slen, zx_schr, zx_tsw, zx_spec3, new_X, zx_new1, zrun_nil, zrun_cons, ↓zgi_h, ↓zgi_n, ↓zgl_h, ↓zgl_n, ↓zgr_h, ↓zgr_n, zset1, zset2, zins_nil, zins_c, f3, cat_i, cat_l, cat_r, List.filter_cons, List.filter_nil, Bool.false_eq_true, l_of0, lv_args, Nat.reduceBEq, Nat.reduceAdd, Nat.reduceLeDiff, Nat.reduceLT, Bool.not_true, Bool.not_false, Bool.and_true, Bool.true_and, Bool.and_false, Bool.false_and, Nat.reduceEqDiff, reduceIte, List.contains_cons, List.contains_nil, Bool.or_false, Bool.or_true, Bool.false_or, Bool.true_or, Fin.isValue, Fin.val_zero, Fin.val_one, Fin.val_two, Fin.reduceFinMk, Option.toList_some, Option.toList_none, List.nil_append, List.cons_append, zwt_nil, zwt_i, zwt_l, zwt_r, zthr_nil, List.isEmpty_nil, zcE, ↓ar_k, lgc0, true_and, and_true, true_implies, implies_true, false_implies, forall_const, i_len, ob_0, ob_1, ↓bI_01, bI_0, not_true_eq_false, not_false_eq_true, Bool.not_eq_false, Bool.not_eq_true, ia_add, ia_sub, ia_mul, ia_neg, ↓ldI, ↓ldL, zaI_c, zaL_c, ↓zlen_I, ↓zlen_L, ↓stI, ↓stL, gD_sI, gN_sI, gI_sI, gJ_sI, gR_sI, gA_sI, gB_sI, gT_sI, gD_sJ, gN_sJ, gI_sJ, gJ_sJ, gR_sJ, gA_sJ, gB_sJ, gT_sJ, gD_sR, gN_sR, gI_sR, gJ_sR, gR_sR, gA_sR, gB_sR, gT_sR, gD_sA, gN_sA, gI_sA, gJ_sA, gR_sA, gA_sA, gB_sA, gT_sA, gD_sB, gN_sB, gI_sB, gJ_sB, gR_sB, gA_sB, gB_sB, gT_sB, zx_il0, zx_il1, zx_il2, zx_il3, zx_ll0, zx_ll1, zx_ll2, zx_ll3, zx_al0, zx_al1, zx_al2, zx_al3, e_has, e_bA, e_mn, e_mx, e_pcI, e_pcL, e_low, zml_152, zg152_0, zb152_0, zb152_3, zg152_50, zb152_50, zg152_56, zb152_56, zmc_152, zms_152, zow_152, zhd_152, zmc_68, zms_68, zow_68, zhd_68, ↓gf_7_2, show (Int8.ofInt 48).toInt32 = Int32.ofInt 48 from rfl, show ztg 28 22 = 50 from rfl, show ztg 44 6 = 50 from rfl, show ztg 53 (-50) = 3 from rfl, show ztg 7 49 = 56 from rfl, LStory_d lS, LStory_r1 lS, LStory_k1 lS, LStory_n1 lS, LStory_r2 lS, LStory_k2 lS, LStory_n2 lS, LStory_r3 lS, LStory_k3 lS, LStory_n3 lS, LStory_r4 lS, LStory_k4 lS, LStory_n4 lS]
  have key : ∀ n : Nat, n ≤ 48 → (∀ a, a < n → oa (F a) (pc (nx T r) (-1) a b) ≠ some x) → zfp zP (zcall zP 152) 152 Q 3 [(0, .ref 79), (1, .int (Int32.ofInt i)), (2, .int (Int32.ofInt b)), (3, .ref 55), (4, .int (Int32.ofInt x)), (5, .int (Int32.ofInt n))] [] (hOf σ) 0 0 := by
    refine bk _ ?_
    intro n hn ih hno
    rw [zg152_3]
    simp -implicitDefEqProofs only [zx_iconst, zx_bipush, zx_sipush, zx_lconst, zx_ldc, zx_ldcS, zx_ldc_w, zx_ldc2_w, zx_iload, zx_lload, zx_aload, zx_istore_n, zx_istore, zx_lstore_n, zx_lstore, zx_astore_n, zx_astore, zx_iinc, zx_iadd, zx_isub, zx_imul, zx_iand, zx_ior, zx_ixor, zx_ishl, zx_ishr, zx_iushr, zx_idiv, zx_irem, zx_ineg, zx_ladd, zx_lsub, zx_land, zx_lor, zx_lxor, zx_lneg, zx_lshl, zx_lushr, zx_i2l, zx_l2i, zx_lcmp, zx_dup, zx_dup2, zx_pop, zx_goto, zx_if_eq, zx_if_ne, zx_if_lt, zx_if_ge, zx_if_gt, zx_if_le, zx_icmp_eq, zx_icmp_ne, zx_icmp_lt, zx_icmp_ge, zx_icmp_gt, zx_icmp_le, zx_getfield, zx_putfield, zx_iaload, zx_laload, zx_aaload, zx_iastore, zx_lastore, zx_arraylength, zx_ireturn, zx_lreturn, zx_areturn, zx_return, zx_athrow, zx_static0, zx_static1, zx_virt1, zx_static2, zx_virt2, zx_static3, zx_virt3, zx_static4, zx_virt4, zx_static5, zx_virt5, zx_static6, zx_virt6, zx_static7, zx_virt7, zx_cpI, zx_cpL, ↓cpI, ↓cpL, zx_slen, zx_schr, zx_tsw, zx_spec3, new_X, zx_new1, zrun_nil, zrun_cons, ↓zgi_h, ↓zgi_n, ↓zgl_h, ↓zgl_n, ↓zgr_h, ↓zgr_n, zset1, zset2, zins_nil, zins_c, f3, cat_i, cat_l, cat_r, List.filter_cons, List.filter_nil, Bool.false_eq_true, l_of0, lv_args, Nat.reduceBEq, Nat.reduceAdd, Nat.reduceLeDiff, Nat.reduceLT, Bool.not_true, Bool.not_false, Bool.and_true, Bool.true_and, Bool.and_false, Bool.false_and, Nat.reduceEqDiff, reduceIte, List.contains_cons, List.contains_nil, Bool.or_false, Bool.or_true, Bool.false_or, Bool.true_or, Fin.isValue, Fin.val_zero, Fin.val_one, Fin.val_two, Fin.reduceFinMk, Option.toList_some, Option.toList_none, List.nil_append, List.cons_append, zwt_nil, zwt_i, zwt_l, zwt_r, zthr_nil, List.isEmpty_nil, zcE, ↓ar_k, lgc0, true_and, and_true, true_implies, implies_true, false_implies, forall_const, i_len, ob_0, ob_1, ↓bI_01, bI_0, not_true_eq_false, not_false_eq_true, Bool.not_eq_false, Bool.not_eq_true, ia_add, ia_sub, ia_mul, ia_neg, ↓ldI, ↓ldL, zaI_c, zaL_c, ↓zlen_I, ↓zlen_L, ↓stI, ↓stL, gD_sI, gN_sI, gI_sI, gJ_sI, gR_sI, gA_sI, gB_sI, gT_sI, gD_sJ, gN_sJ, gI_sJ, gJ_sJ, gR_sJ, gA_sJ, gB_sJ, gT_sJ, gD_sR, gN_sR, gI_sR, gJ_sR, gR_sR, gA_sR, gB_sR, gT_sR, gD_sA, gN_sA, gI_sA, gJ_sA, gR_sA, gA_sA, gB_sA, gT_sA, gD_sB, gN_sB, gI_sB, gJ_sB, gR_sB, gA_sB, gB_sB, gT_sB, zx_il0, zx_il1, zx_il2, zx_il3, zx_ll0, zx_ll1, zx_ll2, zx_ll3, zx_al0, zx_al1, zx_al2, zx_al3, e_has, e_bA, e_mn, e_mx, e_pcI, e_pcL, e_low, zml_152, zg152_0, zb152_0, zb152_3, zg152_50, zb152_50, zg152_56, zb152_56, zmc_152, zms_152, zow_152, zhd_152, zmc_68, zms_68, zow_68, zhd_68, ↓gf_7_2, show (Int8.ofInt 48).toInt32 = Int32.ofInt 48 from rfl, show ztg 28 22 = 50 from rfl, show ztg 44 6 = 50 from rfl, show ztg 53 (-50) = 3 from rfl, show ztg 7 49 = 56 from rfl, LStory_d lS, LStory_r1 lS, LStory_k1 lS, LStory_n1 lS, LStory_r2 lS, LStory_k2 lS, LStory_n2 lS, LStory_r3 lS, LStory_k3 lS, LStory_n3 lS, LStory_r4 lS, LStory_k4 lS, LStory_n4 lS]
    try simp (disch := omega) only [ii_lt, ii_le, ii_eq, ii_eq0, ii_lt0, ii_0lt, ii_le0, ii_0le, i_inT, i_natN, i_nat, ia_div, ia_rem, hs_ofI, i_1shl, i_or, i_bit, true_and, and_true, not_true_eq_false, not_false_eq_true, true_implies, false_implies, implies_true, Int.reduceLT, Int.reduceLE, Int.reduceEq, Int.reduceNeg, Int.toNat_natCast, Int.reduceToNat, Nat.reduceLeDiff, Nat.reduceAdd, tn_2, tn_2p, tn_48, tn_48r, tn_3, tn_3p, tn_3q, tn_p1, tn_d2, tn_12, ia_add, ia_sub, ia_mul]
    refine ⟨fun c => ?_, fun c => ?_⟩
    · rw [show lw (fun a => a < 48 ∧ oa (F a) (pc (nx T r) (-1) a b) = some x) = none from lw_none.2 (fun a ⟨z1, z2⟩ => hno a (by omega) z2)] at hQ
      exact hQ
    · have hf := hF n (by omega)
      try simp (disch := omega) only [ii_lt, ii_le, ii_eq, ii_eq0, ii_lt0, ii_0lt, ii_le0, ii_0le, i_inT, i_natN, i_nat, ia_div, ia_rem, hs_ofI, i_1shl, i_or, i_bit, true_and, and_true, not_true_eq_false, not_false_eq_true, true_implies, false_implies, implies_true, Int.reduceLT, Int.reduceLE, Int.reduceEq, Int.reduceNeg, Int.toNat_natCast, Int.reduceToNat, Nat.reduceLeDiff, Nat.reduceAdd, tn_2, tn_2p, tn_48, tn_48r, tn_3, tn_3p, tn_3q, tn_p1, tn_d2, tn_12, ia_add, ia_sub, ia_mul, hf]
      try simp only [hf]
      have go : oa (F n) (pc (nx T r) (-1) n b) ≠ some x → zfp zP (zcall zP 152) 152 Q 3 [(0, .ref 79), (1, .int (Int32.ofInt i)), (2, .int (Int32.ofInt b)), (3, .ref 55), (4, .int (Int32.ofInt x)), (5, .int (Int32.ofInt ((n : Int) + 1)))] [] (hOf σ) 0 0 := by
        intro hne
        refine ih (by omega) (fun a ha => ?_)
        by_cases e : a = n
        · rw [e]
          exact hne
        · exact hno a (by omega)
      cases e : F n with
      | none =>
        simp only [show fr 268435456 none = 268435456 from rfl]
        try simp (disch := omega) only [ii_lt, ii_le, ii_eq, ii_eq0, ii_lt0, ii_0lt, ii_le0, ii_0le, i_inT, i_natN, i_nat, ia_div, ia_rem, hs_ofI, i_1shl, i_or, i_bit, true_and, and_true, not_true_eq_false, not_false_eq_true, true_implies, false_implies, implies_true, Int.reduceLT, Int.reduceLE, Int.reduceEq, Int.reduceNeg, Int.toNat_natCast, Int.reduceToNat, Nat.reduceLeDiff, Nat.reduceAdd, tn_2, tn_2p, tn_48, tn_48r, tn_3, tn_3p, tn_3q, tn_p1, tn_d2, tn_12, ia_add, ia_sub, ia_mul]
        first
        | exact go (by rw [e, oa_none]; simp)
        | exact ⟨fun _ => go (by rw [e, oa_none]; simp), fun z => by omega⟩
      | some y =>
        obtain ⟨hy, hnl⟩ := hF2 n y e
        simp only [show fr 268435456 (some y) = y from rfl]
        try simp (disch := omega) only [ii_lt, ii_le, ii_eq, ii_eq0, ii_lt0, ii_0lt, ii_le0, ii_0le, i_inT, i_natN, i_nat, ia_div, ia_rem, hs_ofI, i_1shl, i_or, i_bit, true_and, and_true, not_true_eq_false, not_false_eq_true, true_implies, false_implies, implies_true, Int.reduceLT, Int.reduceLE, Int.reduceEq, Int.reduceNeg, Int.toNat_natCast, Int.reduceToNat, Nat.reduceLeDiff, Nat.reduceAdd, tn_2, tn_2p, tn_48, tn_48r, tn_3, tn_3p, tn_3q, tn_p1, tn_d2, tn_12, ia_add, ia_sub, ia_mul]
        refine ⟨fun z => by omega, fun _ => ?_⟩
        simp -implicitDefEqProofs only [zx_iconst, zx_bipush, zx_sipush, zx_lconst, zx_ldc, zx_ldcS, zx_ldc_w, zx_ldc2_w, zx_iload, zx_lload, zx_aload, zx_istore_n, zx_istore, zx_lstore_n, zx_lstore, zx_astore_n, zx_astore, zx_iinc, zx_iadd, zx_isub, zx_imul, zx_iand, zx_ior, zx_ixor, zx_ishl, zx_ishr, zx_iushr, zx_idiv, zx_irem, zx_ineg, zx_ladd, zx_lsub, zx_land, zx_lor, zx_lxor, zx_lneg, zx_lshl, zx_lushr, zx_i2l, zx_l2i, zx_lcmp, zx_dup, zx_dup2, zx_pop, zx_goto, zx_if_eq, zx_if_ne, zx_if_lt, zx_if_ge, zx_if_gt, zx_if_le, zx_icmp_eq, zx_icmp_ne, zx_icmp_lt, zx_icmp_ge, zx_icmp_gt, zx_icmp_le, zx_getfield, zx_putfield, zx_iaload, zx_laload, zx_aaload, zx_iastore, zx_lastore, zx_arraylength, zx_ireturn, zx_lreturn, zx_areturn, zx_return, zx_athrow, zx_static0, zx_static1, zx_virt1, zx_static2, zx_virt2, zx_static3, zx_virt3, zx_static4, zx_virt4, zx_static5, zx_virt5, zx_static6, zx_virt6, zx_static7, zx_virt7, zx_cpI, zx_cpL, ↓cpI, ↓cpL, zx_slen, zx_schr, zx_tsw, zx_spec3, new_X, zx_new1, zrun_nil, zrun_cons, ↓zgi_h, ↓zgi_n, ↓zgl_h, ↓zgl_n, ↓zgr_h, ↓zgr_n, zset1, zset2, zins_nil, zins_c, f3, cat_i, cat_l, cat_r, List.filter_cons, List.filter_nil, Bool.false_eq_true, l_of0, lv_args, Nat.reduceBEq, Nat.reduceAdd, Nat.reduceLeDiff, Nat.reduceLT, Bool.not_true, Bool.not_false, Bool.and_true, Bool.true_and, Bool.and_false, Bool.false_and, Nat.reduceEqDiff, reduceIte, List.contains_cons, List.contains_nil, Bool.or_false, Bool.or_true, Bool.false_or, Bool.true_or, Fin.isValue, Fin.val_zero, Fin.val_one, Fin.val_two, Fin.reduceFinMk, Option.toList_some, Option.toList_none, List.nil_append, List.cons_append, zwt_nil, zwt_i, zwt_l, zwt_r, zthr_nil, List.isEmpty_nil, zcE, ↓ar_k, lgc0, true_and, and_true, true_implies, implies_true, false_implies, forall_const, i_len, ob_0, ob_1, ↓bI_01, bI_0, not_true_eq_false, not_false_eq_true, Bool.not_eq_false, Bool.not_eq_true, ia_add, ia_sub, ia_mul, ia_neg, ↓ldI, ↓ldL, zaI_c, zaL_c, ↓zlen_I, ↓zlen_L, ↓stI, ↓stL, gD_sI, gN_sI, gI_sI, gJ_sI, gR_sI, gA_sI, gB_sI, gT_sI, gD_sJ, gN_sJ, gI_sJ, gJ_sJ, gR_sJ, gA_sJ, gB_sJ, gT_sJ, gD_sR, gN_sR, gI_sR, gJ_sR, gR_sR, gA_sR, gB_sR, gT_sR, gD_sA, gN_sA, gI_sA, gJ_sA, gR_sA, gA_sA, gB_sA, gT_sA, gD_sB, gN_sB, gI_sB, gJ_sB, gR_sB, gA_sB, gB_sB, gT_sB, zx_il0, zx_il1, zx_il2, zx_il3, zx_ll0, zx_ll1, zx_ll2, zx_ll3, zx_al0, zx_al1, zx_al2, zx_al3, e_has, e_bA, e_mn, e_mx, e_pcI, e_pcL, e_low, zml_152, zg152_0, zb152_0, zb152_3, zg152_50, zb152_50, zg152_56, zb152_56, zmc_152, zms_152, zow_152, zhd_152, zmc_68, zms_68, zow_68, zhd_68, ↓gf_7_2, show (Int8.ofInt 48).toInt32 = Int32.ofInt 48 from rfl, show ztg 28 22 = 50 from rfl, show ztg 44 6 = 50 from rfl, show ztg 53 (-50) = 3 from rfl, show ztg 7 49 = 56 from rfl, e_price h (a := n) (b := b) (ban := -1) hnl hb (by omega)]
        cases e2 : pc (nx T r) (-1) n b with
        | none =>
          simp only [show fr 268435456 none = 268435456 from rfl]
          try simp (disch := omega) only [ii_lt, ii_le, ii_eq, ii_eq0, ii_lt0, ii_0lt, ii_le0, ii_0le, i_inT, i_natN, i_nat, ia_div, ia_rem, hs_ofI, i_1shl, i_or, i_bit, true_and, and_true, not_true_eq_false, not_false_eq_true, true_implies, false_implies, implies_true, Int.reduceLT, Int.reduceLE, Int.reduceEq, Int.reduceNeg, Int.toNat_natCast, Int.reduceToNat, Nat.reduceLeDiff, Nat.reduceAdd, tn_2, tn_2p, tn_48, tn_48r, tn_3, tn_3p, tn_3q, tn_p1, tn_d2, tn_12, ia_add, ia_sub, ia_mul]
          exact ⟨fun _ => go (by rw [e2, oa_nr]; simp), fun z => by omega⟩
        | some z =>
          have hz := pc_le e2
          simp only [show fr 268435456 (some z) = z from rfl]
          try simp (disch := omega) only [ii_lt, ii_le, ii_eq, ii_eq0, ii_lt0, ii_0lt, ii_le0, ii_0le, i_inT, i_natN, i_nat, ia_div, ia_rem, hs_ofI, i_1shl, i_or, i_bit, true_and, and_true, not_true_eq_false, not_false_eq_true, true_implies, false_implies, implies_true, Int.reduceLT, Int.reduceLE, Int.reduceEq, Int.reduceNeg, Int.toNat_natCast, Int.reduceToNat, Nat.reduceLeDiff, Nat.reduceAdd, tn_2, tn_2p, tn_48, tn_48r, tn_3, tn_3p, tn_3q, tn_p1, tn_d2, tn_12, ia_add, ia_sub, ia_mul]
          refine ⟨fun c3 => go (by rw [e, e2, oa_some]; intro q; cases q; omega), fun c3 => ?_⟩
          rw [show lw (fun a => a < 48 ∧ oa (F a) (pc (nx T r) (-1) a b) = some x) = some n from lw_some.2 ⟨⟨by omega, by rw [e, e2, oa_some, show y + z = x from by omega]⟩, fun a ha q => hno a ha q.2⟩] at hQ
          exact hQ
  exact key 0 (by omega) (fun a ha => by omega)
