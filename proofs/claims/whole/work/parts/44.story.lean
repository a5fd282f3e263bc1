/-! A TOLD RIDE: what breaks -/
def oa (a b : Option Nat) : Option Nat := match a, b with
  | some x, some y => some (x + y)
  | _, _ => none
theorem oa_none {a : Option Nat} : oa none a = none := rfl
theorem oa_some {x y : Nat} : oa (some x) (some y) = some (x + y) := rfl
theorem oa_nr {a : Option Nat} : oa a none = none := by cases a <;> rfl
/-- the least of those, and the sum of its ways -/
def ov (f : Nat → Option Nat) (w : Nat → Int64) : Nat → Option Nat × Int64
  | 0 => (none, 0)
  | n + 1 => match f n with
    | none => ov f w n
    | some x => match (ov f w n).1 with
      | none => (some x, w n)
      | some y => if x < y then (some x, w n) else if x = y then (some y, (ov f w n).2 + w n) else ov f w n
theorem ov_n {f : Nat → Option Nat} {w : Nat → Int64} {n : Nat} (h : f n = none) : ov f w (n + 1) = ov f w n := by
  show (match f n with
    | none => ov f w n
    | some x => match (ov f w n).1 with
      | none => (some x, w n)
      | some y => if x < y then (some x, w n) else if x = y then (some y, (ov f w n).2 + w n) else ov f w n) = _
  rw [h]
theorem ov_s {f : Nat → Option Nat} {w : Nat → Int64} {n x : Nat} (h : f n = some x) : ov f w (n + 1) = match (ov f w n).1 with
      | none => (some x, w n)
      | some y => if x < y then (some x, w n) else if x = y then (some y, (ov f w n).2 + w n) else ov f w n := by
  show (match f n with
    | none => ov f w n
    | some x => match (ov f w n).1 with
      | none => (some x, w n)
      | some y => if x < y then (some x, w n) else if x = y then (some y, (ov f w n).2 + w n) else ov f w n) = _
  rw [h]
theorem ov_0 {f : Nat → Option Nat} {w : Nat → Int64} : ∀ n, (ov f w n).1 = none → (ov f w n).2 = 0 ∧ ∀ e, e < n → f e = none
  | 0, _ => ⟨rfl, fun e he => by omega⟩
  | n + 1, h => by
    cases e : f n with
    | none =>
      rw [ov_n e] at h ⊢
      obtain ⟨h1, h2⟩ := ov_0 n h
      refine ⟨h1, fun e2 he => ?_⟩
      by_cases e3 : e2 = n
      · rw [e3]
        exact e
      · exact h2 e2 (by omega)
    | some x =>
      rw [ov_s e] at h
      cases e2 : (ov f w n).1 with
      | none =>
        rw [e2] at h
        cases h
      | some y =>
        rw [e2] at h
        dsimp only at h
        split at h
        · cases h
        · split at h
          · cases h
          · rw [e2] at h
            cases h
/-- the ways of those that are m -/
def oq (f : Nat → Option Nat) (w : Nat → Int64) (m : Nat) : Nat → Int64
  | 0 => 0
  | n + 1 => oq f w m n + (if f n = some m then w n else 0)
theorem oq_0 {f : Nat → Option Nat} {w : Nat → Int64} {m : Nat} : ∀ n, (∀ e, e < n → f e ≠ some m) → oq f w m n = 0
  | 0, _ => rfl
  | n + 1, h => by
    show oq f w m n + (if f n = some m then w n else 0) = 0
    rw [oq_0 n (fun e he => h e (by omega)), if_neg (h n (by omega))]
    rfl
theorem ov_m {f : Nat → Option Nat} {w : Nat → Int64} {m : Nat} : ∀ n, (ov f w n).1 = some m → (ov f w n).2 = oq f w m n ∧ (∃ e, e < n ∧ f e = some m) ∧ ∀ e x, e < n → f e = some x → m ≤ x
  | 0, h => by cases h
  | n + 1, h => by
    have hq : oq f w m (n + 1) = oq f w m n + (if f n = some m then w n else 0) := rfl
    cases e : f n with
    | none =>
      rw [ov_n e] at h ⊢
      obtain ⟨h1, ⟨e1, h2, h3⟩, h4⟩ := ov_m n h
      refine ⟨?_, ⟨e1, by omega, h3⟩, fun e2 x he hx => ?_⟩
      · rw [hq, e, if_neg (by simp), h1, Int64.add_zero]
      · by_cases e3 : e2 = n
        · rw [e3, e] at hx
          cases hx
        · exact h4 e2 x (by omega) hx
    | some x =>
      rw [hq, e]
      rw [ov_s e] at h ⊢
      cases e2 : (ov f w n).1 with
      | none =>
        obtain ⟨k1, k2⟩ := ov_0 n e2
        rw [e2] at h
        dsimp only at h ⊢
        have hm : x = m := Option.some.inj h
        subst hm
        refine ⟨?_, ⟨n, by omega, e⟩, fun e3 y he hy => ?_⟩
        · rw [oq_0 n (fun e3 he => by rw [k2 e3 he]; simp), if_pos rfl, Int64.zero_add]
        · by_cases e4 : e3 = n
          · rw [e4, e] at hy
            cases hy
            omega
          · rw [k2 e3 (by omega)] at hy
            cases hy
      | some y =>
        obtain ⟨h1, ⟨e1, h2, h3⟩, h4⟩ := ov_m n e2
        rw [e2] at h
        dsimp only at h ⊢
        by_cases c1 : x < y
        · rw [if_pos c1] at h ⊢
          have hm : x = m := Option.some.inj h
          subst hm
          refine ⟨?_, ⟨n, by omega, e⟩, fun e3 z he hz => ?_⟩
          · rw [oq_0 n (fun e3 he hz => by have := h4 e3 x he hz; omega), if_pos rfl, Int64.zero_add]
          · by_cases e4 : e3 = n
            · rw [e4, e] at hz
              cases hz
              omega
            · have := h4 e3 z (by omega) hz
              omega
        · rw [if_neg c1] at h ⊢
          by_cases c2 : x = y
          · rw [if_pos c2] at h ⊢
            have hm : y = m := Option.some.inj h
            subst hm
            refine ⟨?_, ⟨e1, by omega, h3⟩, fun e3 z he hz => ?_⟩
            · rw [c2, if_pos rfl, h1]
            · by_cases e4 : e3 = n
              · rw [e4, e] at hz
                cases hz
                omega
              · exact h4 e3 z (by omega) hz
          · rw [if_neg c2] at h ⊢
            rw [e2] at h
            have hm : y = m := Option.some.inj h
            subst hm
            refine ⟨?_, ⟨e1, by omega, h3⟩, fun e3 z he hz => ?_⟩
            · rw [if_neg (fun q => c2 (Option.some.inj q)), h1, Int64.add_zero]
            · by_cases e4 : e3 = n
              · rw [e4, e] at hz
                cases hz
                omega
              · exact h4 e3 z (by omega) hz
theorem ov_congr {f g : Nat → Option Nat} {w v : Nat → Int64} : ∀ n, (∀ e, e < n → f e = g e) → (∀ e x, e < n → f e = some x → w e = v e) → ov f w n = ov g v n
  | 0, _, _ => rfl
  | n + 1, h1, h2 => by
    have ih := ov_congr n (fun e he => h1 e (by omega)) (fun e x he => h2 e x (by omega))
    have h3 := h1 n (by omega)
    cases e : f n with
    | none => rw [ov_n e, ov_n (by rw [← h3]; exact e), ih]
    | some x => rw [ov_s e, ov_s (x := x) (by rw [← h3]; exact e), ih, h2 n x (by omega) e]
/-- two streets as one number; what a turn costs -/
def pr (a b : Nat) : Nat := a / 2 * 100 + b / 2
def pc (R : Nat → Nat → Bool) (ban : Int) (a b : Nat) : Option Nat := if R a b = true then some 0 else if (pr a b : Int) = ban then none else some 1
def lg (T : Tw) (U : Nat → Nat) (i a : Nat) : Bool := isA T a && (decide (bg T a = U i) && decide (en T a = U (i + 1)))
/-- of a leg and an arc: the fewest that break, and in how many ways -/
def st (T : Tw) (R : Nat → Nat → Bool) (U : Nat → Nat) (ban : Int) : Nat → Nat → Option Nat × Int64
  | 0, a => if lg T U 0 a = true then (some 0, 1) else (none, 0)
  | i + 1, a => if lg T U (i + 1) a = true then ov (fun e => oa (st T R U ban i e).1 (pc R ban e a)) (fun e => (st T R U ban i e).2) 48 else (none, 0)
/-- of a ride of m corners -/
def sT (T : Tw) (R : Nat → Nat → Bool) (U : Nat → Nat) (ban : Int) (m : Nat) : Option Nat × Int64 := ov (fun a => (st T R U ban (m - 2) a).1) (fun a => (st T R U ban (m - 2) a).2) 48
theorem lg_ok {T : Tw} {U : Nat → Nat} {i a : Nat} : lg T U i a = true ↔ isA T a = true ∧ bg T a = U i ∧ en T a = U (i + 1) := by
  unfold lg
  rw [Bool.and_eq_true, Bool.and_eq_true, decide_eq_true_eq, decide_eq_true_eq]
theorem st_lg {T : Tw} {R : Nat → Nat → Bool} {U : Nat → Nat} {ban : Int} {i a x : Nat} (h : (st T R U ban i a).1 = some x) : lg T U i a = true := by
  cases e : lg T U i a with
  | true => rfl
  | false =>
    cases i with
    | zero =>
      have : st T R U ban 0 a = (none, 0) := by
        show (if lg T U 0 a = true then _ else _) = _
        rw [e]
        rfl
      rw [this] at h
      cases h
    | succ i =>
      have : st T R U ban (i + 1) a = (none, 0) := by
        show (if lg T U (i + 1) a = true then _ else _) = _
        rw [e]
        rfl
      rw [this] at h
      cases h
theorem st_no {T : Tw} {R : Nat → Nat → Bool} {U : Nat → Nat} {ban : Int} {i a : Nat} (h : lg T U i a = false) : (st T R U ban i a).1 = none := by
  cases e : (st T R U ban i a).1 with
  | none => rfl
  | some x =>
    rw [st_lg e] at h
    cases h
theorem st_s {T : Tw} {R : Nat → Nat → Bool} {U : Nat → Nat} {ban : Int} {i a : Nat} (h : lg T U (i + 1) a = true) : st T R U ban (i + 1) a = ov (fun e => oa (st T R U ban i e).1 (pc R ban e a)) (fun e => (st T R U ban i e).2) 48 := by
  show (if lg T U (i + 1) a = true then _ else _) = _
  rw [if_pos h]
theorem pc_le {R : Nat → Nat → Bool} {ban : Int} {a b x : Nat} (h : pc R ban a b = some x) : x ≤ 1 := by
  unfold pc at h
  split at h
  · cases h
    omega
  · split at h
    · cases h
    · cases h
      omega
theorem st_le {T : Tw} {R : Nat → Nat → Bool} {U : Nat → Nat} {ban : Int} : ∀ i a x, (st T R U ban i a).1 = some x → x ≤ i
  | 0, a, x, h => by
    have : st T R U ban 0 a = if lg T U 0 a = true then (some 0, 1) else (none, 0) := rfl
    rw [this] at h
    split at h
    · cases h
      omega
    · cases h
  | i + 1, a, x, h => by
    rw [st_s (st_lg h)] at h
    obtain ⟨_, ⟨e, _, h2⟩, _⟩ := ov_m 48 h
    cases e1 : (st T R U ban i e).1 with
    | none =>
      rw [e1, oa_none] at h2
      cases h2
    | some y =>
      have h3 := st_le i e y e1
      cases e2 : pc R ban e a with
      | none =>
        rw [e2, oa_nr] at h2
        cases h2
      | some z =>
        have h4 := pc_le e2
        rw [e1, e2, oa_some] at h2
        cases h2
        omega
theorem e_pair {a b : Nat} {h : zH} {Q : zQ} (ha : a < 48) (hb : b < 48) : zW zP 67 [.int (Int32.ofInt a), .int (Int32.ofInt b)] h Q = Q (.inl (some (.int (Int32.ofInt (pr a b))))) h := by
  rw [zWE]
  simp -implicitDefEqProofs only [zx_iconst, zx_bipush, zx_sipush, zx_lconst, zx_ldc, zx_ldcS, zx_ldc_w, zx_ldc2_w, zx_iload, zx_lload, zx_aload, zx_istore_n, zx_istore, zx_lstore_n, zx_lstore, zx_astore_n, zx_astore, zx_iinc, zx_iadd, zx_isub, zx_imul, zx_iand, zx_ior, zx_ixor, zx_ishl, zx_ishr, zx_iushr, zx_idiv, zx_irem, zx_ineg, zx_ladd, zx_lsub, zx_land, zx_lor, zx_lxor, zx_lneg, zx_lshl, zx_lushr, zx_i2l, zx_l2i, zx_lcmp, zx_dup, zx_dup2, zx_pop, zx_goto, zx_if_eq, zx_if_ne, zx_if_lt, zx_if_ge, zx_if_gt, zx_if_le, zx_icmp_eq, zx_icmp_ne, zx_icmp_lt, zx_icmp_ge, zx_icmp_gt, zx_icmp_le, zx_getfield, zx_putfield, zx_iaload, zx_laload, zx_aaload, zx_iastore, zx_lastore, zx_arraylength, zx_ireturn, zx_lreturn, zx_areturn, zx_return, zx_athrow, zx_static0, zx_static1, zx_virt1, zx_static2, zx_virt2, zx_static3, zx_virt3, zx_static4, zx_virt4, zx_static5, zx_virt5, zx_static6, zx_virt6, zx_static7, zx_virt7, zx_cpI, zx_cpL, ↓cpI, ↓cpL, zx_slen, zx_schr, zx_tsw, zx_spec3, new_X, zx_new1, zrun_nil, zrun_cons, ↓zgi_h, ↓zgi_n, ↓zgl_h, ↓zgl_n, ↓zgr_h, ↓zgr_n, zset1, zset2, zins_nil, zins_c, f3, cat_i, cat_l, cat_r, List.filter_cons, List.filter_nil, Bool.false_eq_true, l_of0, lv_args, Nat.reduceBEq, Nat.reduceAdd, Nat.reduceLeDiff, Nat.reduceLT, Bool.not_true, Bool.not_false, Bool.and_true, Bool.true_and, Bool.and_false, Bool.false_and, Nat.reduceEqDiff, reduceIte, List.contains_cons, List.contains_nil, Bool.or_false, Bool.or_true, Bool.false_or, Bool.true_or, Fin.isValue, Fin.val_zero, Fin.val_one, Fin.val_two, Fin.reduceFinMk, Option.toList_some, Option.toList_none, List.nil_append, List.cons_append, zwt_nil, zwt_i, zwt_l, zwt_r, zthr_nil, List.isEmpty_nil, zcE, ↓ar_k, lgc0, true_and, and_true, true_implies, implies_true, false_implies, forall_const, i_len, ob_0, ob_1, ↓bI_01, bI_0, not_true_eq_false, not_false_eq_true, Bool.not_eq_false, Bool.not_eq_true, ia_add, ia_sub, ia_mul, ia_neg, ↓ldI, ↓ldL, zaI_c, zaL_c, ↓zlen_I, ↓zlen_L, ↓stI, ↓stL, gD_sI, gN_sI, gI_sI, gJ_sI, gR_sI, gA_sI, gB_sI, gT_sI, gD_sJ, gN_sJ, gI_sJ, gJ_sJ, gR_sJ, gA_sJ, gB_sJ, gT_sJ, gD_sR, gN_sR, gI_sR, gJ_sR, gR_sR, gA_sR, gB_sR, gT_sR, gD_sA, gN_sA, gI_sA, gJ_sA, gR_sA, gA_sA, gB_sA, gT_sA, gD_sB, gN_sB, gI_sB, gJ_sB, gR_sB, gA_sB, gB_sB, gT_sB, zx_il0, zx_il1, zx_il2, zx_il3, zx_ll0, zx_ll1, zx_ll2, zx_ll3, zx_al0, zx_al1, zx_al2, zx_al3, e_has, e_bA, e_mn, e_mx, e_pcI, e_pcL, e_low, zml_67, zg67_0, zb67_0, zmc_67, zms_67, zow_67, zhd_67, show (Int8.ofInt 100).toInt32 = Int32.ofInt 100 from rfl]
  try simp (disch := omega) only [ii_lt, ii_le, ii_eq, ii_eq0, ii_lt0, ii_0lt, ii_le0, ii_0le, i_inT, i_natN, i_nat, ia_div, ia_rem, hs_ofI, i_1shl, i_or, i_bit, true_and, and_true, not_true_eq_false, not_false_eq_true, true_implies, false_implies, implies_true, Int.reduceLT, Int.reduceLE, Int.reduceEq, Int.reduceNeg, Int.toNat_natCast, Int.reduceToNat, Nat.reduceLeDiff, Nat.reduceAdd, tn_2, tn_2p, tn_48, tn_48r, tn_3, tn_3p, tn_3q, tn_p1, tn_d2, tn_12, ia_add, ia_sub, ia_mul, show ¬ Int32.ofInt 2 = 0 from by decide]
  unfold pr
  rw [show ((a / 2 * 100 + b / 2 : Nat) : Int) = (a : Int) / 2 * 100 + (b : Int) / 2 from by omega]
theorem e_price {σ : zS} {t a b : Nat} {T : Tw} {r : Rl} {ban : Int} {Q : zQ} (h : QC σ t T r) (ha : a < 2 * nS T) (hb : b < 2 * nS T) (hn : -2147483648 ≤ ban ∧ ban < 2147483648) : zW zP 68 [.int (Int32.ofInt a), .int (Int32.ofInt b), .ref 55, .int (Int32.ofInt ban)] (hOf σ) Q = Q (.inl (some (.int (Int32.ofInt (fr 268435456 (pc (nx T r) ban a b)))))) (hOf σ) := by
  have h24 := (QC_w h).2.1
  have lR := LA_Rules (QC_A h)
  have hp : pr a b < 2147483648 := by unfold pr; omega
  rw [zWE]
  simp -implicitDefEqProofs only [zx_iconst, zx_bipush, zx_sipush, zx_lconst, zx_ldc, zx_ldcS, zx_ldc_w, zx_ldc2_w, zx_iload, zx_lload, zx_aload, zx_istore_n, zx_istore, zx_lstore_n, zx_lstore, zx_astore_n, zx_astore, zx_iinc, zx_iadd, zx_isub, zx_imul, zx_iand, zx_ior, zx_ixor, zx_ishl, zx_ishr, zx_iushr, zx_idiv, zx_irem, zx_ineg, zx_ladd, zx_lsub, zx_land, zx_lor, zx_lxor, zx_lneg, zx_lshl, zx_lushr, zx_i2l, zx_l2i, zx_lcmp, zx_dup, zx_dup2, zx_pop, zx_goto, zx_if_eq, zx_if_ne, zx_if_lt, zx_if_ge, zx_if_gt, zx_if_le, zx_icmp_eq, zx_icmp_ne, zx_icmp_lt, zx_icmp_ge, zx_icmp_gt, zx_icmp_le, zx_getfield, zx_putfield, zx_iaload, zx_laload, zx_aaload, zx_iastore, zx_lastore, zx_arraylength, zx_ireturn, zx_lreturn, zx_areturn, zx_return, zx_athrow, zx_static0, zx_static1, zx_virt1, zx_static2, zx_virt2, zx_static3, zx_virt3, zx_static4, zx_virt4, zx_static5, zx_virt5, zx_static6, zx_virt6, zx_static7, zx_virt7, zx_cpI, zx_cpL, ↓cpI, ↓cpL, zx_slen, zx_schr, zx_tsw, zx_spec3, new_X, zx_new1, zrun_nil, zrun_cons, ↓zgi_h, ↓zgi_n, ↓zgl_h, ↓zgl_n, ↓zgr_h, ↓zgr_n, zset1, zset2, zins_nil, zins_c, f3, cat_i, cat_l, cat_r, List.filter_cons, List.filter_nil, Bool.false_eq_true, l_of0, lv_args, Nat.reduceBEq, Nat.reduceAdd, Nat.reduceLeDiff, Nat.reduceLT, Bool.not_true, Bool.not_false, Bool.and_true, Bool.true_and, Bool.and_false, Bool.false_and, Nat.reduceEqDiff, reduceIte, List.contains_cons, List.contains_nil, Bool.or_false, Bool.or_true, Bool.false_or, Bool.true_or, Fin.isValue, Fin.val_zero, Fin.val_one, Fin.val_two, Fin.reduceFinMk, Option.toList_some, Option.toList_none, List.nil_append, List.cons_append, zwt_nil, zwt_i, zwt_l, zwt_r, zthr_nil, List.isEmpty_nil, zcE, ↓ar_k, lgc0, true_and, and_true, true_implies, implies_true, false_implies, forall_const, i_len, ob_0, ob_1, ↓bI_01, bI_0, not_true_eq_false, not_false_eq_true, Bool.not_eq_false, Bool.not_eq_true, ia_add, ia_sub, ia_mul, ia_neg, ↓ldI, ↓ldL, zaI_c, zaL_c, ↓zlen_I, ↓zlen_L, ↓stI, ↓stL, gD_sI, gN_sI, gI_sI, gJ_sI, gR_sI, gA_sI, gB_sI, gT_sI, gD_sJ, gN_sJ, gI_sJ, gJ_sJ, gR_sJ, gA_sJ, gB_sJ, gT_sJ, gD_sR, gN_sR, gI_sR, gJ_sR, gR_sR, gA_sR, gB_sR, gT_sR, gD_sA, gN_sA, gI_sA, gJ_sA, gR_sA, gA_sA, gB_sA, gT_sA, gD_sB, gN_sB, gI_sB, gJ_sB, gR_sB, gA_sB, gB_sB, gT_sB, zx_il0, zx_il1, zx_il2, zx_il3, zx_ll0, zx_ll1, zx_ll2, zx_ll3, zx_al0, zx_al1, zx_al2, zx_al3, e_has, e_bA, e_mn, e_mx, e_pcI, e_pcL, e_low, zml_68, zg68_0, zb68_0, zg68_12, zb68_12, zg68_26, zb68_26, zg68_27, zb68_27, zmc_67, zms_67, zow_67, zhd_67, zmc_68, zms_68, zow_68, zhd_68, zmc_31, zms_31, zow_31, zhd_31, show ztg 18 8 = 26 from rfl, show ztg 23 4 = 27 from rfl, show ztg 7 5 = 12 from rfl, LRules_d lR, LRules_r0 lR, LRules_k0 lR, LRules_n0 lR, LRules_r1 lR, LRules_k1 lR, LRules_n1 lR, LRules_r2 lR, LRules_k2 lR, LRules_n2 lR, e_pair (a := a) (b := b) (by omega) (by omega)]
  try simp (disch := omega) only [ii_lt, ii_le, ii_eq, ii_eq0, ii_lt0, ii_0lt, ii_le0, ii_0le, i_inT, i_natN, i_nat, ia_div, ia_rem, hs_ofI, i_1shl, i_or, i_bit, true_and, and_true, not_true_eq_false, not_false_eq_true, true_implies, false_implies, implies_true, Int.reduceLT, Int.reduceLE, Int.reduceEq, Int.reduceNeg, Int.toNat_natCast, Int.reduceToNat, Nat.reduceLeDiff, Nat.reduceAdd, tn_2, tn_2p, tn_48, tn_48r, tn_3, tn_3p, tn_3q, tn_p1, tn_d2, tn_12, ia_add, ia_sub, ia_mul, (QC_N h).1 a ha]
  unfold pc
  cases nx T r a b with
  | true => exact propext ⟨fun z => z.2 (by decide), fun z => ⟨fun n => (by cases n), fun _ => z⟩⟩
  | false =>
    rw [if_neg (by decide)]
    by_cases e : (pr a b : Int) = ban
    · rw [if_pos e]
      exact propext ⟨fun z => (z.1 rfl).2 e, fun z => ⟨fun _ => ⟨fun n => absurd e n, fun _ => z⟩, fun n => (by cases n)⟩⟩
    · rw [if_neg e]
      exact propext ⟨fun z => (z.1 rfl).1 e, fun z => ⟨fun _ => ⟨fun _ => z, fun n => absurd n e⟩, fun n => (by cases n)⟩⟩
theorem u_warc {σ : zS} {t i a : Nat} {T : Tw} {r : Rl} {ban : Int} {bf : Int64} {F : Nat → Option Nat} {V : Nat → Int64} {Q : zQ} (h : QC σ t T r) (hi : i ≤ 10) (ha : a < 2 * nS T) (hn : -2147483648 ≤ ban ∧ ban < 2147483648) (hb : ∀ e, bt bf e = true → isA T e = true ∧ gA σ 81 (i * 48 + e) = Int32.ofInt (fr 268435456 (F e)) ∧ gB σ 82 e = V e) (hF : ∀ e x, F e = some x → x ≤ 11 ∧ bt bf e = true) (hQ : Q (.inl none) (hOf (sB (sA σ 81 (upd (gA σ 81) ((i + 1) * 48 + a) (Int32.ofInt (fr 268435456 (ov (fun e => oa (F e) (pc (nx T r) ban e a)) V 48).1)))) 82 (vp_updL (gB σ 82) a (ov (fun e => oa (F e) (pc (nx T r) ban e a)) V 48).2)))) : zW zP 69 [.ref 79, .int (Int32.ofInt ((i + 1 : Nat) : Int)), .int (Int32.ofInt a), .long bf, .ref 55, .int (Int32.ofInt ban)] (hOf σ) Q := by
  have h24 := (QC_w h).2.1
  have lS := LA_Story (QC_A h)
  rw [zWE]
  simp -implicitDefEqProofs only [zx_iconst, zx_bipush, zx_sipush, zx_lconst, zx_ldc, zx_ldcS, zx_ldc_w, zx_ldc2_w, zx_iload, zx_lload, zx_aload, zx_istore_n, zx_istore, zx_lstore_n, zx_lstore, zx_astore_n, zx_astore, zx_iinc, zx_iadd, zx_isub, zx_imul, zx_iand, zx_ior, zx_ixor, zx_ishl, zx_ishr, zx_iushr, zx_idiv, zx_irem, zx_ineg, zx_ladd, zx_lsub, zx_land, zx_lor, zx_lxor, zx_lneg, zx_lshl, zx_lushr, zx_i2l, zx_l2i, zx_lcmp, zx_dup, zx_dup2, zx_pop, zx_goto, zx_if_eq, zx_if_ne, zx_if_lt, zx_if_ge, zx_if_gt, zx_if_le, zx_icmp_eq, zx_icmp_ne, zx_icmp_lt, zx_icmp_ge, zx_icmp_gt, zx_icmp_le, zx_getfield, zx_putfield, zx_iaload, zx_laload, zx_aaload, zx_iastore, zx_lastore, zx_arraylength, zx_ireturn, zx_lreturn, zx_areturn, zx_return, zx_athrow, zx_static0, zx_static1, zx_virt1, zx_static2, zx_virt2, zx_static3, zx_virt3, zx_static4, zx_virt4, zx_static5, zx_virt5, zx_static6, zx_virt6, zx_static7, zx_virt7, zx_cpI, zx_cpL, ↓cpI, ↓cpL, zx_slen, zx_schr, zx_tsw, zx_spec3, new_X, zx_new1, zrun_nil, zrun_cons, ↓zgi_h, ↓zgi_n, ↓zgl_h, ↓zgl_n, ↓zgr_h, ↓zgr_n, zset1, zset2, zins_nil, zins_c, f3, cat_i, cat_l, cat_r, List.filter_cons, List.filter_nil, Bool.false_eq_true, l_of0, lv_args, Nat.reduceBEq, Nat.reduceAdd, Nat.reduceLeDiff, Nat.reduceLT, Bool.not_true, Bool.not_false, Bool.and_true, Bool.true_and, Bool.and_false, Bool.false_and, Nat.reduceEqDiff, reduceIte, List.contains_cons, List.contains_nil, Bool.or_false, Bool.or_true, Bool.false_or, Bool.true_or, Fin.isValue, Fin.val_zero, Fin.val_one, Fin.val_two, Fin.reduceFinMk, Option.toList_some, Option.toList_none, List.nil_append, List.cons_append, zwt_nil, zwt_i, zwt_l, zwt_r, zthr_nil, List.isEmpty_nil, zcE, ↓ar_k, lgc0, true_and, and_true, true_implies, implies_true, false_implies, forall_const, i_len, ob_0, ob_1, ↓bI_01, bI_0, not_true_eq_false, not_false_eq_true, Bool.not_eq_false, Bool.not_eq_true, ia_add, ia_sub, ia_mul, ia_neg, ↓ldI, ↓ldL, zaI_c, zaL_c, ↓zlen_I, ↓zlen_L, ↓stI, ↓stL, gD_sI, gN_sI, gI_sI, gJ_sI, gR_sI, gA_sI, gB_sI, gT_sI, gD_sJ, gN_sJ, gI_sJ, gJ_sJ, gR_sJ, gA_sJ, gB_sJ, gT_sJ, gD_sR, gN_sR, gI_sR, gJ_sR, gR_sR, gA_sR, gB_sR, gT_sR, gD_sA, gN_sA, gI_sA, gJ_sA, gR_sA, gA_sA, gB_sA, gT_sA, gD_sB, gN_sB, gI_sB, gJ_sB, gR_sB, gA_sB, gB_sB, gT_sB, zx_il0, zx_il1, zx_il2, zx_il3, zx_ll0, zx_ll1, zx_ll2, zx_ll3, zx_al0, zx_al1, zx_al2, zx_al3, e_has, e_bA, e_mn, e_mx, e_pcI, e_pcL, e_low, zml_69, zg69_0, zb69_0, zb69_10, zg69_67, zb69_67, zg69_93, zb69_93, zg69_94, zb69_94, zg69_97, zb69_97, zg69_103, zb69_103, zmc_68, zms_68, zow_68, zhd_68, zmc_69, zms_69, zow_69, zhd_69, zmc_31, zms_31, zow_31, zhd_31, ↓gf_7_2, ↓gf_7_3, show (Int8.ofInt 48).toInt32 = Int32.ofInt 48 from rfl, show ztg 100 (-90) = 10 from rfl, show ztg 14 89 = 103 from rfl, show ztg 23 74 = 97 from rfl, show ztg 57 10 = 67 from rfl, show ztg 73 20 = 93 from rfl, show ztg 80 13 = 93 from rfl, show ztg 90 4 = 94 from rfl, LStory_d lS, LStory_r1 lS, LStory_k1 lS, LStory_n1 lS, LStory_r2 lS, LStory_k2 lS, LStory_n2 lS, LStory_r3 lS, LStory_k3 lS, LStory_n3 lS, LStory_r4 lS, LStory_k4 lS, LStory_n4 lS]
  have hfe : ∀ e, oa (F e) (pc (nx T r) ban e a) = none ∨ ∃ x, oa (F e) (pc (nx T r) ban e a) = some x ∧ x ≤ 12 ∧ ∃ y z, F e = some y ∧ pc (nx T r) ban e a = some z ∧ x = y + z := by
    intro e
    cases e1 : F e with
    | none => exact .inl rfl
    | some y =>
      cases e2 : pc (nx T r) ban e a with
      | none => exact .inl rfl
      | some z =>
        have := pc_le e2
        have := (hF e y e1).1
        exact .inr ⟨y + z, rfl, by omega, y, z, rfl, rfl, rfl⟩
  generalize hf : (fun e => oa (F e) (pc (nx T r) ban e a)) = f at hQ
  have hfe : ∀ e, f e = none ∨ ∃ x, f e = some x ∧ x ≤ 12 ∧ ∃ y z, F e = some y ∧ pc (nx T r) ban e a = some z ∧ x = y + z := by
    intro e
    rw [← hf]
    exact hfe e
  have hov : ∀ n x, (ov f V n).1 = some x → x ≤ 12 := by
    intro n x hx
    obtain ⟨_, ⟨e, _, h2⟩, _⟩ := ov_m n hx
    rcases hfe e with h3 | ⟨y, h3, h4, _⟩
    · rw [h3] at h2
      cases h2
    · rw [h3] at h2
      cases h2
      exact h4
  have hob : ∀ n, fr 268435456 (ov f V n).1 ≤ 268435456 := by
    intro n
    cases e : (ov f V n).1 with
    | none => exact Nat.le_refl _
    | some x =>
      have := hov n x e
      show x ≤ _
      omega
  have key : ∀ n : Nat, n ≤ 48 → zfp zP (zcall zP 69) 69 Q 10 [(0, .ref 79), (1, .int (Int32.ofInt ((i + 1 : Nat) : Int))), (2, .int (Int32.ofInt a)), (3, .long bf), (5, .ref 55), (6, .int (Int32.ofInt ban)), (7, .int (Int32.ofInt (fr 268435456 (ov f V n).1))), (8, .long (ov f V n).2), (10, .int (Int32.ofInt n))] [] (hOf σ) 0 0 := by
    refine bk _ ?_
    intro n hn2 ih
    have hb1 := hob n
    rw [zg69_10]
    simp -implicitDefEqProofs only [zx_iconst, zx_bipush, zx_sipush, zx_lconst, zx_ldc, zx_ldcS, zx_ldc_w, zx_ldc2_w, zx_iload, zx_lload, zx_aload, zx_istore_n, zx_istore, zx_lstore_n, zx_lstore, zx_astore_n, zx_astore, zx_iinc, zx_iadd, zx_isub, zx_imul, zx_iand, zx_ior, zx_ixor, zx_ishl, zx_ishr, zx_iushr, zx_idiv, zx_irem, zx_ineg, zx_ladd, zx_lsub, zx_land, zx_lor, zx_lxor, zx_lneg, zx_lshl, zx_lushr, zx_i2l, zx_l2i, zx_lcmp, zx_dup, zx_dup2, zx_pop, zx_goto, zx_if_eq, zx_if_ne, zx_if_lt, zx_if_ge, zx_if_gt, zx_if_le, zx_icmp_eq, zx_icmp_ne, zx_icmp_lt, zx_icmp_ge, zx_icmp_gt, zx_icmp_le, zx_getfield, zx_putfield, zx_iaload, zx_laload, zx_aaload, zx_iastore, zx_lastore, zx_arraylength, zx_ireturn, zx_lreturn, zx_areturn, zx_return, zx_athrow, zx_static0, zx_static1, zx_virt1, zx_static2, zx_virt2, zx_static3, zx_virt3, zx_static4, zx_virt4, zx_static5, zx_virt5, zx_static6, zx_virt6, zx_static7, zx_virt7, zx_cpI, zx_cpL, ↓cpI, ↓cpL, zx_slen, zx_schr, zx_tsw, zx_spec3, new_X, zx_new1, zrun_nil, zrun_cons, ↓zgi_h, ↓zgi_n, ↓zgl_h, ↓zgl_n, ↓zgr_h, ↓zgr_n, zset1, zset2, zins_nil, zins_c, f3, cat_i, cat_l, cat_r, List.filter_cons, List.filter_nil, Bool.false_eq_true, l_of0, lv_args, Nat.reduceBEq, Nat.reduceAdd, Nat.reduceLeDiff, Nat.reduceLT, Bool.not_true, Bool.not_false, Bool.and_true, Bool.true_and, Bool.and_false, Bool.false_and, Nat.reduceEqDiff, reduceIte, List.contains_cons, List.contains_nil, Bool.or_false, Bool.or_true, Bool.false_or, Bool.true_or, Fin.isValue, Fin.val_zero, Fin.val_one, Fin.val_two, Fin.reduceFinMk, Option.toList_some, Option.toList_none, List.nil_append, List.cons_append, zwt_nil, zwt_i, zwt_l, zwt_r, zthr_nil, List.isEmpty_nil, zcE, ↓ar_k, lgc0, true_and, and_true, true_implies, implies_true, false_implies, forall_const, i_len, ob_0, ob_1, ↓bI_01, bI_0, not_true_eq_false, not_false_eq_true, Bool.not_eq_false, Bool.not_eq_true, ia_add, ia_sub, ia_mul, ia_neg, ↓ldI, ↓ldL, zaI_c, zaL_c, ↓zlen_I, ↓zlen_L, ↓stI, ↓stL, gD_sI, gN_sI, gI_sI, gJ_sI, gR_sI, gA_sI, gB_sI, gT_sI, gD_sJ, gN_sJ, gI_sJ, gJ_sJ, gR_sJ, gA_sJ, gB_sJ, gT_sJ, gD_sR, gN_sR, gI_sR, gJ_sR, gR_sR, gA_sR, gB_sR, gT_sR, gD_sA, gN_sA, gI_sA, gJ_sA, gR_sA, gA_sA, gB_sA, gT_sA, gD_sB, gN_sB, gI_sB, gJ_sB, gR_sB, gA_sB, gB_sB, gT_sB, zx_il0, zx_il1, zx_il2, zx_il3, zx_ll0, zx_ll1, zx_ll2, zx_ll3, zx_al0, zx_al1, zx_al2, zx_al3, e_has, e_bA, e_mn, e_mx, e_pcI, e_pcL, e_low, zml_69, zg69_0, zb69_0, zb69_10, zg69_67, zb69_67, zg69_93, zb69_93, zg69_94, zb69_94, zg69_97, zb69_97, zg69_103, zb69_103, zmc_68, zms_68, zow_68, zhd_68, zmc_69, zms_69, zow_69, zhd_69, zmc_31, zms_31, zow_31, zhd_31, ↓gf_7_2, ↓gf_7_3, show (Int8.ofInt 48).toInt32 = Int32.ofInt 48 from rfl, show ztg 100 (-90) = 10 from rfl, show ztg 14 89 = 103 from rfl, show ztg 23 74 = 97 from rfl, show ztg 57 10 = 67 from rfl, show ztg 73 20 = 93 from rfl, show ztg 80 13 = 93 from rfl, show ztg 90 4 = 94 from rfl, LStory_d lS, LStory_r1 lS, LStory_k1 lS, LStory_n1 lS, LStory_r2 lS, LStory_k2 lS, LStory_n2 lS, LStory_r3 lS, LStory_k3 lS, LStory_n3 lS, LStory_r4 lS, LStory_k4 lS, LStory_n4 lS]
    try simp (disch := omega) only [ii_lt, ii_le, ii_eq, ii_eq0, ii_lt0, ii_0lt, ii_le0, ii_0le, i_inT, i_natN, i_nat, ia_div, ia_rem, hs_ofI, i_1shl, i_or, i_bit, true_and, and_true, not_true_eq_false, not_false_eq_true, true_implies, false_implies, implies_true, Int.reduceLT, Int.reduceLE, Int.reduceEq, Int.reduceNeg, Int.toNat_natCast, Int.reduceToNat, Nat.reduceLeDiff, Nat.reduceAdd, tn_2, tn_2p, tn_48, tn_48r, tn_3, tn_3p, tn_3q, tn_p1, tn_d2, tn_12, ia_add, ia_sub, ia_mul]
    refine ⟨fun c => ?_, fun c => ?_⟩
    · have hn48 : n = 48 := by omega
      subst hn48
      exact hQ
    · have ih := ih (by omega)
      refine ⟨fun c2 => ?_, fun c2 => ?_⟩
      · have : f n = none := by
          rcases hfe n with h3 | ⟨x, h3, _, y, z, h4, _⟩
          · exact h3
          · rw [(hF n y h4).2] at c2
            cases c2
        rw [ov_n this] at ih
        exact ih
      · obtain ⟨b1, b2, b3⟩ := hb n c2
        have hnl := isA_lt b1
        rw [show ((i + 1 : Nat) : Int) - 1 = (i : Int) from by omega]
        simp -implicitDefEqProofs only [zx_iconst, zx_bipush, zx_sipush, zx_lconst, zx_ldc, zx_ldcS, zx_ldc_w, zx_ldc2_w, zx_iload, zx_lload, zx_aload, zx_istore_n, zx_istore, zx_lstore_n, zx_lstore, zx_astore_n, zx_astore, zx_iinc, zx_iadd, zx_isub, zx_imul, zx_iand, zx_ior, zx_ixor, zx_ishl, zx_ishr, zx_iushr, zx_idiv, zx_irem, zx_ineg, zx_ladd, zx_lsub, zx_land, zx_lor, zx_lxor, zx_lneg, zx_lshl, zx_lushr, zx_i2l, zx_l2i, zx_lcmp, zx_dup, zx_dup2, zx_pop, zx_goto, zx_if_eq, zx_if_ne, zx_if_lt, zx_if_ge, zx_if_gt, zx_if_le, zx_icmp_eq, zx_icmp_ne, zx_icmp_lt, zx_icmp_ge, zx_icmp_gt, zx_icmp_le, zx_getfield, zx_putfield, zx_iaload, zx_laload, zx_aaload, zx_iastore, zx_lastore, zx_arraylength, zx_ireturn, zx_lreturn, zx_areturn, zx_return, zx_athrow, zx_static0, zx_static1, zx_virt1, zx_static2, zx_virt2, zx_static3, zx_virt3, zx_static4, zx_virt4, zx_static5, zx_virt5, zx_static6, zx_virt6, zx_static7, zx_virt7, zx_cpI, zx_cpL, ↓cpI, ↓cpL, zx_slen, zx_schr, zx_tsw, zx_spec3, new_X, zx_new1, zrun_nil, zrun_cons, ↓zgi_h, ↓zgi_n, ↓zgl_h, ↓zgl_n, ↓zgr_h, ↓zgr_n, zset1, zset2, zins_nil, zins_c, f3, cat_i, cat_l, cat_r, List.filter_cons, List.filter_nil, Bool.false_eq_true, l_of0, lv_args, Nat.reduceBEq, Nat.reduceAdd, Nat.reduceLeDiff, Nat.reduceLT, Bool.not_true, Bool.not_false, Bool.and_true, Bool.true_and, Bool.and_false, Bool.false_and, Nat.reduceEqDiff, reduceIte, List.contains_cons, List.contains_nil, Bool.or_false, Bool.or_true, Bool.false_or, Bool.true_or, Fin.isValue, Fin.val_zero, Fin.val_one, Fin.val_two, Fin.reduceFinMk, Option.toList_some, Option.toList_none, List.nil_append, List.cons_append, zwt_nil, zwt_i, zwt_l, zwt_r, zthr_nil, List.isEmpty_nil, zcE, ↓ar_k, lgc0, true_and, and_true, true_implies, implies_true, false_implies, forall_const, i_len, ob_0, ob_1, ↓bI_01, bI_0, not_true_eq_false, not_false_eq_true, Bool.not_eq_false, Bool.not_eq_true, ia_add, ia_sub, ia_mul, ia_neg, ↓ldI, ↓ldL, zaI_c, zaL_c, ↓zlen_I, ↓zlen_L, ↓stI, ↓stL, gD_sI, gN_sI, gI_sI, gJ_sI, gR_sI, gA_sI, gB_sI, gT_sI, gD_sJ, gN_sJ, gI_sJ, gJ_sJ, gR_sJ, gA_sJ, gB_sJ, gT_sJ, gD_sR, gN_sR, gI_sR, gJ_sR, gR_sR, gA_sR, gB_sR, gT_sR, gD_sA, gN_sA, gI_sA, gJ_sA, gR_sA, gA_sA, gB_sA, gT_sA, gD_sB, gN_sB, gI_sB, gJ_sB, gR_sB, gA_sB, gB_sB, gT_sB, zx_il0, zx_il1, zx_il2, zx_il3, zx_ll0, zx_ll1, zx_ll2, zx_ll3, zx_al0, zx_al1, zx_al2, zx_al3, e_has, e_bA, e_mn, e_mx, e_pcI, e_pcL, e_low, zml_69, zg69_0, zb69_0, zb69_10, zg69_67, zb69_67, zg69_93, zb69_93, zg69_94, zb69_94, zg69_97, zb69_97, zg69_103, zb69_103, zmc_68, zms_68, zow_68, zhd_68, zmc_69, zms_69, zow_69, zhd_69, zmc_31, zms_31, zow_31, zhd_31, ↓gf_7_2, ↓gf_7_3, show (Int8.ofInt 48).toInt32 = Int32.ofInt 48 from rfl, show ztg 100 (-90) = 10 from rfl, show ztg 14 89 = 103 from rfl, show ztg 23 74 = 97 from rfl, show ztg 57 10 = 67 from rfl, show ztg 73 20 = 93 from rfl, show ztg 80 13 = 93 from rfl, show ztg 90 4 = 94 from rfl, e_price h (a := n) (b := a) hnl ha hn, LStory_d lS, LStory_r1 lS, LStory_k1 lS, LStory_n1 lS, LStory_r2 lS, LStory_k2 lS, LStory_n2 lS, LStory_r3 lS, LStory_k3 lS, LStory_n3 lS, LStory_r4 lS, LStory_k4 lS, LStory_n4 lS]
        try simp (disch := omega) only [ii_lt, ii_le, ii_eq, ii_eq0, ii_lt0, ii_0lt, ii_le0, ii_0le, i_inT, i_natN, i_nat, ia_div, ia_rem, hs_ofI, i_1shl, i_or, i_bit, true_and, and_true, not_true_eq_false, not_false_eq_true, true_implies, false_implies, implies_true, Int.reduceLT, Int.reduceLE, Int.reduceEq, Int.reduceNeg, Int.toNat_natCast, Int.reduceToNat, Nat.reduceLeDiff, Nat.reduceAdd, tn_2, tn_2p, tn_48, tn_48r, tn_3, tn_3p, tn_3q, tn_p1, tn_d2, tn_12, ia_add, ia_sub, ia_mul, b2]
        try simp only [b2]
        have hV : ∃ v : Nat, v ≤ 1000000000 ∧ fr 268435456 (F n) + fr 268435456 (pc (nx T r) ban n a) = v ∧ (f n = none → 268435456 ≤ v) ∧ ∀ x, f n = some x → v = x := by
          refine ⟨_, ?_, rfl, ?_, ?_⟩
          · have : ∀ o : Option Nat, (∀ x, o = some x → x ≤ 100) → fr 268435456 o ≤ 268435456 := by
              intro o ho
              cases o with
              | none => exact Nat.le_refl _
              | some x =>
                have := ho x rfl
                show x ≤ _
                omega
            have h1 := this (F n) (fun x hx => by have := (hF n x hx).1; omega)
            have h2 := this (pc (nx T r) ban n a) (fun x hx => by have := pc_le hx; omega)
            omega
          · intro hno
            rw [← hf] at hno
            dsimp only at hno
            cases e1 : F n with
            | none =>
              show 268435456 ≤ 268435456 + _
              omega
            | some y =>
              cases e2 : pc (nx T r) ban n a with
              | none =>
                show 268435456 ≤ _ + 268435456
                omega
              | some z =>
                rw [e1, e2] at hno
                cases hno
          · intro x hx
            rcases hfe n with h3 | ⟨x2, h3, _, y, z, h4, h5, h6⟩
            · rw [h3] at hx
              cases hx
            · rw [h3] at hx
              cases hx
              rw [h4, h5, h6]
              rfl
        obtain ⟨v, v1, v2, v3, v4⟩ := hV
        have v2 : (fr 268435456 (F n) : Int) + (fr 268435456 (pc (nx T r) ban n a) : Int) = (v : Int) := by omega
        try simp only [ia_add, v2]
        try simp (disch := omega) only [ii_lt, ii_le, ii_eq, ii_eq0, ii_lt0, ii_0lt, ii_le0, ii_0le, i_inT, i_natN, i_nat, ia_div, ia_rem, hs_ofI, i_1shl, i_or, i_bit, true_and, and_true, not_true_eq_false, not_false_eq_true, true_implies, false_implies, implies_true, Int.reduceLT, Int.reduceLE, Int.reduceEq, Int.reduceNeg, Int.toNat_natCast, Int.reduceToNat, Nat.reduceLeDiff, Nat.reduceAdd, tn_2, tn_2p, tn_48, tn_48r, tn_3, tn_3p, tn_3q, tn_p1, tn_d2, tn_12, ia_add, ia_sub, ia_mul, b3]
        try simp only [b3]
        rcases hfe n with h3 | ⟨x, h3, hx, _⟩
        · have v5 := v3 h3
          rw [ov_n h3] at ih
          refine ⟨fun c3 => ?_, fun c3 => by omega⟩
          refine ⟨fun c4 => ?_, fun c4 => ⟨fun c5 => ?_, fun c5 => by omega⟩⟩
          · rw [Int64.add_zero]
            exact zjf rfl ih
          · rw [Int64.add_zero]
            exact zjf rfl ih
        · have v5 := v4 x h3
          subst v5
          rw [ov_s h3] at ih
          cases e : (ov f V n).1 with
          | none =>
            rw [e] at ih
            have e0 := (ov_0 n e).1
            rw [e0]
            simp only [show fr 268435456 none = 268435456 from rfl]
            refine ⟨fun c3 => by omega, fun c3 => ?_⟩
            refine ⟨fun c4 => by omega, fun c4 => ?_⟩
            rw [Int64.zero_add]
            first | exact ih | exact zjf rfl (ih)
          | some y =>
            rw [e] at ih
            simp only [show fr 268435456 (some y) = y from rfl]
            have hy := hov n y e
            dsimp only at ih
            by_cases c6 : v < y
            · rw [if_pos c6] at ih
              refine ⟨fun c3 => by omega, fun c3 => ?_⟩
              refine ⟨fun c4 => by omega, fun c4 => ?_⟩
              rw [Int64.zero_add]
              first | exact ih | exact zjf rfl (ih)
            · rw [if_neg c6] at ih
              refine ⟨fun c3 => ?_, fun c3 => by omega⟩
              by_cases c7 : v = y
              · rw [if_pos c7] at ih
                refine ⟨fun c4 => by omega, fun c4 => ⟨fun c5 => by omega, fun c5 => ?_⟩⟩
                exact zjf rfl ih
              · rw [if_neg c7, e] at ih
                refine ⟨fun c4 => ?_, fun c4 => by omega⟩
                rw [Int64.add_zero]
                exact zjf rfl ih
  exact zjf rfl (key 0 (by omega))
