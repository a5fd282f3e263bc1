/-! WHAT A CLAUSE ADDS -/
def tAC (T : Tw) (x y : Nat) : Tw := ((nC T + 1, nS T, nR T, bX T), (fun c => if c = nC T then x else tX T c), (fun c => if c = nC T then y else tY T c), T.2.2.2)
def tAS (T : Tw) (a b n : Nat) : Tw := ((nC T, nS T + 1, nR T, bX T), tX T, tY T, (fun s => if s = nS T then a else tA T s), (fun s => if s = nS T then b else tB T s), (fun s => if s = nS T then n else tN T s), (fun s => if s = nS T then false else tO T s), T.2.2.2.2.2.2.2)
def tAO (T : Tw) (s : Nat) : Tw := (T.1, tX T, tY T, tA T, tB T, tN T, (fun u => if u = s then true else tO T u), T.2.2.2.2.2.2.2)
def tAB (T : Tw) (c : Nat) : Tw := ((nC T, nS T, nR T, bX T ||| 2 ^ c), T.2)
def tAR (T : Tw) (a b m : Nat) : Tw := ((nC T, nS T, nR T + 1, bX T), tX T, tY T, tA T, tB T, tN T, tO T, (fun r => if r = nR T then a else rA T r), (fun r => if r = nR T then b else rB T r), (fun r => if r = nR T then m else rM T r))
/-- the frame of reading: the town that is told, and the reader -/
def fy (t : Nat) (σ τ : zS) : Prop := gD τ = gD σ ∧ gN τ = gN σ ∧ gR τ = gR σ ∧ gT τ = gT σ ∧ ∀ a, a < t ∨ (t + 14 ≤ a ∧ a ≠ 46) → gI τ a = gI σ a ∧ gJ τ a = gJ σ a ∧ gA τ a = gA σ a ∧ gB τ a = gB σ a
theorem fy_refl {t : Nat} {σ : zS} : fy t σ σ := ⟨rfl, rfl, rfl, rfl, fun _ _ => ⟨rfl, rfl, rfl, rfl⟩⟩
theorem fy_trans {t : Nat} {σ τ ρ : zS} (g : fy t σ τ) (h : fy t τ ρ) : fy t σ ρ := ⟨h.1.trans g.1, h.2.1.trans g.2.1, h.2.2.1.trans g.2.2.1, h.2.2.2.1.trans g.2.2.2.1, fun a ha => ⟨(h.2.2.2.2 a ha).1.trans (g.2.2.2.2 a ha).1, (h.2.2.2.2 a ha).2.1.trans (g.2.2.2.2 a ha).2.1, (h.2.2.2.2 a ha).2.2.1.trans (g.2.2.2.2 a ha).2.2.1, (h.2.2.2.2 a ha).2.2.2.trans (g.2.2.2.2 a ha).2.2.2⟩⟩
theorem fy_z {t lo hi : Nat} {σ τ : zS} (h : fz lo hi σ τ) (ht : t ≤ 32) (h1 : (t ≤ lo ∧ hi ≤ t + 14) ∨ (46 ≤ lo ∧ hi ≤ 47)) : fy t σ τ := ⟨h.1, h.2.1, h.2.2.1, h.2.2.2.1, fun a ha => h.2.2.2.2 a (by omega)⟩
/-- while a town is told -/
def IS (σ : zS) (t : Nat) (T : Tw) (r : Rl) (f : Nat → Nat) (n p : Nat) : Prop := rd σ f n p ∧ CT σ t T ∧ wf T ∧ RS (gB σ (t + 6)) (gB σ (t + 7)) r ∧ gI σ t 4 = 0
theorem IS_46 {σ τ : zS} {t : Nat} {T : Tw} {r : Rl} {f : Nat → Nat} {n p q : Nat} (g : fz 46 47 σ τ) (h : IS σ t T r f n p) (h2 : rd τ f n q) : IS τ t T r f n q := by
  have ht := CT_t h.2.1
  refine ⟨h2, CT_sm h.2.1 (fun k hk => fz_sm g (by omega)), h.2.2.1, ?_, ?_⟩
  · rw [fz_B g (by omega), fz_B g (by omega)]
    exact h.2.2.2.1
  · rw [fz_I g (by omega)]
    exact h.2.2.2.2
theorem cn_or16 {x c : Nat} : cn (x ||| 2 ^ c) 16 ≤ cn x 16 + 1 := by
  cases e : x.testBit c with
  | true =>
    have : x ||| 2 ^ c = x := by
      apply Nat.eq_of_testBit_eq
      intro j
      rw [Nat.testBit_or, Nat.testBit_two_pow]
      by_cases h : c = j
      · rw [← h, e, Bool.true_or]
      · rw [decide_eq_false h, Bool.or_false]
    rw [this]
    omega
  | false =>
    rw [← cp_cn, ← cp_cn]
    by_cases hc : c < 16
    · have h1 : cp (x ||| 2 ^ c).testBit 16 = cp x.testBit 16 + 1 := cp_rem (i := c) 16 hc (by rw [Nat.testBit_or, Nat.testBit_two_pow, decide_eq_true rfl, Bool.or_true]) (fun j => by
        rw [Nat.testBit_or, Nat.testBit_two_pow]
        by_cases h : c = j
        · subst h
          rw [e]
          simp
        · rw [decide_eq_false h, Bool.or_false, decide_eq_true (by omega), Bool.and_true])
      omega
    · have h1 : cp (x ||| 2 ^ c).testBit 16 = cp x.testBit 16 := cp_congr 16 (fun j hj => by rw [Nat.testBit_or, Nat.testBit_two_pow, decide_eq_false (by omega), Bool.or_false])
      omega
theorem isA_AS {T : Tw} {a b n i : Nat} : isA (tAS T a b n) i = (isA T i || decide (i / 2 = nS T)) := by
  show (decide (i < 2 * (nS T + 1)) && (decide (i % 2 = 0) || !(if i / 2 = nS T then false else tO T (i / 2)))) = ((decide (i < 2 * nS T) && (decide (i % 2 = 0) || !tO T (i / 2))) || decide (i / 2 = nS T))
  by_cases e : i / 2 = nS T
  · rw [if_pos e, decide_eq_true e, decide_eq_true (p := i < 2 * (nS T + 1)) (by omega)]
    simp
  · rw [if_neg e, decide_eq_false e, Bool.or_false]
    by_cases h : i < 2 * nS T
    · rw [decide_eq_true h, decide_eq_true (p := i < 2 * (nS T + 1)) (by omega)]
    · rw [decide_eq_false h, decide_eq_false (p := i < 2 * (nS T + 1)) (by omega)]
theorem wf_AC {T : Tw} {x y : Nat} (h : wf T) (h1 : nC T < 16) (hx : x ≤ 99) (hy : y ≤ 99) : wf (tAC T x y) := by
  obtain ⟨w1, w2, w3, w4, w5, w6, w7, w8⟩ := h
  refine ⟨by show nC T + 1 ≤ 16; omega, w2, w3, ?_, fun s hs => ?_, fun c hc => ?_, fun r hr => ?_, w8⟩
  · show bX T < 2 ^ (nC T + 1)
    rw [Nat.pow_succ]
    omega
  · have := w5 s hs
    exact ⟨by show tA T s < nC T + 1; omega, by show tB T s < nC T + 1; omega, this.2.2⟩
  · have hc : c < nC T + 1 := hc
    show (if c = nC T then x else tX T c) ≤ 99 ∧ (if c = nC T then y else tY T c) ≤ 99
    by_cases e : c = nC T
    · rw [if_pos e, if_pos e]
      exact ⟨hx, hy⟩
    · rw [if_neg e, if_neg e]
      exact w6 c (by omega)
  · have := w7 r hr
    exact ⟨by show rA T r < nC T + 1; omega, by show rB T r < nC T + 1; omega, this.2.2⟩
theorem wf_AS {T : Tw} {a b n : Nat} (h : wf T) (h1 : nS T < 24) (ha : a < nC T) (hb : b < nC T) (hab : a ≠ b) (hn : 1 ≤ n ∧ n ≤ 99) : wf (tAS T a b n) := by
  obtain ⟨w1, w2, w3, w4, w5, w6, w7, w8⟩ := h
  refine ⟨w1, by show nS T + 1 ≤ 24; omega, w3, w4, fun s hs => ?_, w6, w7, w8⟩
  have hs : s < nS T + 1 := hs
  show (if s = nS T then a else tA T s) < nC T ∧ (if s = nS T then b else tB T s) < nC T ∧ (if s = nS T then a else tA T s) ≠ (if s = nS T then b else tB T s) ∧ 1 ≤ (if s = nS T then n else tN T s) ∧ (if s = nS T then n else tN T s) ≤ 99
  by_cases e : s = nS T
  · simp only [if_pos e]
    exact ⟨ha, hb, hab, hn.1, hn.2⟩
  · simp only [if_neg e]
    exact w5 s (by omega)
theorem wf_AO {T : Tw} {s : Nat} (h : wf T) : wf (tAO T s) := h
theorem wf_AB {T : Tw} {c : Nat} (h : wf T) (hc : c < nC T) (h10 : cn (bX T) 16 < 10) : wf (tAB T c) := by
  obtain ⟨w1, w2, w3, w4, w5, w6, w7, w8⟩ := h
  refine ⟨w1, w2, w3, Nat.or_lt_two_pow w4 (Nat.pow_lt_pow_right (by omega) hc), w5, w6, w7, ?_⟩
  have := cn_or16 (x := bX T) (c := c)
  show cn (bX T ||| 2 ^ c) 16 ≤ 10
  omega
theorem wf_AR {T : Tw} {a b m : Nat} (h : wf T) (h1 : nR T < 12) (ha : a < nC T) (hb : b < nC T) (hab : a ≠ b) (hm : m ≤ 99) : wf (tAR T a b m) := by
  obtain ⟨w1, w2, w3, w4, w5, w6, w7, w8⟩ := h
  refine ⟨w1, w2, by show nR T + 1 ≤ 12; omega, w4, w5, w6, fun r hr => ?_, w8⟩
  have hr : r < nR T + 1 := hr
  show (if r = nR T then a else rA T r) < nC T ∧ (if r = nR T then b else rB T r) < nC T ∧ (if r = nR T then a else rA T r) ≠ (if r = nR T then b else rB T r) ∧ (if r = nR T then m else rM T r) ≤ 99
  by_cases e : r = nR T
  · simp only [if_pos e]
    exact ⟨ha, hb, hab, hm⟩
  · simp only [if_neg e]
    exact w7 r (by omega)
theorem u_addC {σ : zS} {t x y : Nat} {T : Tw} {Q : zQ} (h : CT σ t T) (hw : wf T) (h1 : nC T < 16) (hQ : ∀ τ, fz t (t + 14) σ τ → CT τ t (tAC T x y) → gB τ = gB σ → gI τ t 4 = gI σ t 4 → Q (.inl none) (hOf τ)) : zW zP 176 [.ref t, .int (Int32.ofInt x), .int (Int32.ofInt y)] (hOf σ) Q := by
  have ht := CT_t h
  have lTw := CT_L h
  have a15 : (15 ≤ t) = True := eq_true (by omega)
  have a14 : (14 ≤ t) = True := eq_true (by omega)
  have n12 : (t + 1 = t + 2) = False := eq_false (by omega)
  have n21 : (t + 2 = t + 1) = False := eq_false (by omega)
  rw [zWE]
  simp -implicitDefEqProofs only [zx_iconst, zx_bipush, zx_sipush, zx_lconst, zx_ldc, zx_ldcS, zx_ldc_w, zx_ldc2_w, zx_iload, zx_lload, zx_aload, zx_istore_n, zx_istore, zx_lstore_n, zx_lstore, zx_astore_n, zx_astore, zx_iinc, zx_iadd, zx_isub, zx_imul, zx_iand, zx_ior, zx_ixor, zx_ishl, zx_ishr, zx_iushr, zx_idiv, zx_irem, zx_ineg, zx_ladd, zx_lsub, zx_land, zx_lor, zx_lxor, zx_lneg, zx_lshl, zx_lushr, zx_i2l, zx_l2i, zx_lcmp, zx_dup, zx_dup2, zx_pop, zx_goto, zx_if_eq, zx_if_ne, zx_if_lt, zx_if_ge, zx_if_gt, zx_if_le, zx_icmp_eq, zx_icmp_ne, zx_icmp_lt, zx_icmp_ge, zx_icmp_gt, zx_icmp_le, zx_getfield, zx_putfield, zx_iaload, zx_laload, zx_aaload, zx_iastore, zx_lastore, zx_arraylength, zx_ireturn, zx_lreturn, zx_areturn, zx_return, zx_athrow, zx_static0, zx_static1, zx_virt1, zx_static2, zx_virt2, zx_static3, zx_virt3, zx_static4, zx_virt4, zx_static5, zx_virt5, zx_static6, zx_virt6, zx_static7, zx_virt7, zx_cpI, zx_cpL, ↓cpI, ↓cpL, zx_slen, zx_schr, zx_tsw, zx_spec3, new_X, zx_new1, zrun_nil, zrun_cons, ↓zgi_h, ↓zgi_n, ↓zgl_h, ↓zgl_n, ↓zgr_h, ↓zgr_n, zset1, zset2, zins_nil, zins_c, f3, cat_i, cat_l, cat_r, List.filter_cons, List.filter_nil, Bool.false_eq_true, l_of0, lv_args, Nat.reduceBEq, Nat.reduceAdd, Nat.reduceLeDiff, Nat.reduceLT, Bool.not_true, Bool.not_false, Bool.and_true, Bool.true_and, Bool.and_false, Bool.false_and, Nat.reduceEqDiff, reduceIte, List.contains_cons, List.contains_nil, Bool.or_false, Bool.or_true, Bool.false_or, Bool.true_or, Fin.isValue, Fin.val_zero, Fin.val_one, Fin.val_two, Fin.reduceFinMk, Option.toList_some, Option.toList_none, List.nil_append, List.cons_append, zwt_nil, zwt_i, zwt_l, zwt_r, zthr_nil, List.isEmpty_nil, zcE, ↓ar_k, lgc0, true_and, and_true, true_implies, implies_true, false_implies, forall_const, i_len, ob_0, ob_1, ↓bI_01, bI_0, not_true_eq_false, not_false_eq_true, Bool.not_eq_false, Bool.not_eq_true, ia_add, ia_sub, ia_mul, ia_neg, ↓ldI, ↓ldL, zaI_c, zaL_c, ↓zlen_I, ↓zlen_L, ↓stI, ↓stL, gD_sI, gN_sI, gI_sI, gJ_sI, gR_sI, gA_sI, gB_sI, gT_sI, gD_sJ, gN_sJ, gI_sJ, gJ_sJ, gR_sJ, gA_sJ, gB_sJ, gT_sJ, gD_sR, gN_sR, gI_sR, gJ_sR, gR_sR, gA_sR, gB_sR, gT_sR, gD_sA, gN_sA, gI_sA, gJ_sA, gR_sA, gA_sA, gB_sA, gT_sA, gD_sB, gN_sB, gI_sB, gJ_sB, gR_sB, gA_sB, gB_sB, gT_sB, zx_il0, zx_il1, zx_il2, zx_il3, zx_ll0, zx_ll1, zx_ll2, zx_ll3, zx_al0, zx_al1, zx_al2, zx_al3, e_has, e_bA, e_mn, e_mx, e_pcI, e_pcL, e_low, zml_176, zg176_0, zb176_0, zg176_39, zb176_39, zmc_176, zms_176, zow_176, zhd_176, ↓gf_8_0, ↓gf_8_6, ↓gf_8_7, ↓pp_8_0, ↓pq_8_0, ↓pw_8_0, show (Int8.ofInt 16).toInt32 = Int32.ofInt 16 from rfl, show ztg 6 33 = 39 from rfl, LTown_g lTw, LTown_d lTw, LTown_r6 lTw, LTown_k6 lTw, LTown_n6 lTw, LTown_r7 lTw, LTown_k7 lTw, LTown_n7 lTw, LTown_r8 lTw, LTown_k8 lTw, LTown_n8 lTw, LTown_r9 lTw, LTown_k9 lTw, LTown_n9 lTw, LTown_r10 lTw, LTown_k10 lTw, LTown_n10 lTw, LTown_r11 lTw, LTown_k11 lTw, LTown_n11 lTw, LTown_r12 lTw, LTown_k12 lTw, LTown_n12 lTw, LTown_r13 lTw, LTown_k13 lTw, LTown_n13 lTw, LTown_r14 lTw, LTown_k14 lTw, LTown_n14 lTw, LTown_r15 lTw, LTown_k15 lTw, LTown_n15 lTw, LTown_r16 lTw, LTown_k16 lTw, LTown_n16 lTw, LTown_r17 lTw, LTown_k17 lTw, LTown_n17 lTw, LTown_r18 lTw, LTown_k18 lTw, LTown_n18 lTw, CT_0 h, a15, a14, n12, n21]
  try simp (disch := omega) only [ii_lt, ii_le, ii_eq, ii_eq0, ii_lt0, ii_0lt, ii_le0, ii_0le, i_inT, i_natN, i_nat, ia_div, ia_rem, hs_ofI, i_1shl, i_or, i_bit, true_and, and_true, not_true_eq_false, not_false_eq_true, true_implies, false_implies, implies_true, Int.reduceLT, Int.reduceLE, Int.reduceEq, Int.reduceNeg, Int.toNat_natCast, Int.reduceToNat, Nat.reduceLeDiff, Nat.reduceAdd, tn_2, tn_2p, tn_48, tn_48r, tn_3, tn_3p, tn_3q, tn_p1, tn_d2, tn_12, ia_add, ia_sub, ia_mul]
  refine ⟨fun c => by omega, fun c => ?_⟩
  try simp (disch := omega) only [ii_lt, ii_le, ii_eq, ii_eq0, ii_lt0, ii_0lt, ii_le0, ii_0le, i_inT, i_natN, i_nat, ia_div, ia_rem, hs_ofI, i_1shl, i_or, i_bit, true_and, and_true, not_true_eq_false, not_false_eq_true, true_implies, false_implies, implies_true, Int.reduceLT, Int.reduceLE, Int.reduceEq, Int.reduceNeg, Int.toNat_natCast, Int.reduceToNat, Nat.reduceLeDiff, Nat.reduceAdd, tn_2, tn_2p, tn_48, tn_48r, tn_3, tn_3p, tn_3q, tn_p1, tn_d2, tn_12, ia_add, ia_sub, ia_mul]
  try refine ⟨by omega, by omega, ?_⟩
  refine hQ _ (fz_trans (fz_trans (fz_sA (by omega)) (fz_sA (by omega))) (fz_sI (by omega))) ?_ rfl ?_
  rotate_left 1
  · rw [gI_sI, if_neg (by omega)]
    rfl
  · obtain ⟨g1, g2, g3, g4, g5, g6, g7, g8, g9, g10, g11, g12, g13⟩ := h
    refine ⟨g1, g2, ?_, ?_, ?_, ?_, g7, fun c hc => ?_, fun c hc => ?_, ?_, ?_, ?_, ?_⟩
    · rw [gI_sI, if_pos ⟨rfl, rfl⟩]
      rfl
    · rw [gI_sI, if_neg (by omega)]
      exact g4
    · rw [gI_sI, if_neg (by omega)]
      exact g5
    · rw [gI_sI, if_neg (by omega)]
      exact g6
    · have hc : c < nC T + 1 := hc
      rw [gA_sI, gA_sA, if_neg (by omega), gA_sA, if_pos rfl]
      show _ = Int32.ofInt ((if c = nC T then x else tX T c : Nat) : Int)
      by_cases e : c = nC T
      · rw [e, upd_s, if_pos rfl]
      · rw [upd_n e, if_neg e]
        exact g8 c (by omega)
    · have hc : c < nC T + 1 := hc
      rw [gA_sI, gA_sA, if_pos rfl]
      show _ = Int32.ofInt ((if c = nC T then y else tY T c : Nat) : Int)
      by_cases e : c = nC T
      · rw [e, upd_s, if_pos rfl]
      · rw [upd_n e, if_neg e]
        exact g9 c (by omega)
    · rw [gA_sI, gA_sA, if_neg (by omega), gA_sA, if_neg (by omega)]
      exact g10
    · rw [gA_sI, gA_sA, if_neg (by omega), gA_sA, if_neg (by omega)]
      exact g11
    · rw [gA_sI, gA_sA, if_neg (by omega), gA_sA, if_neg (by omega)]
      exact g12
    · rw [gA_sI, gA_sA, if_neg (by omega), gA_sA, if_neg (by omega)]
      exact g13
theorem u_addR {σ : zS} {t a b m : Nat} {T : Tw} {Q : zQ} (h : CT σ t T) (hw : wf T) (h1 : nR T < 12) (hQ : ∀ τ, fz t (t + 14) σ τ → CT τ t (tAR T a b m) → gB τ = gB σ → gI τ t 4 = gI σ t 4 → Q (.inl none) (hOf τ)) : zW zP 181 [.ref t, .int (Int32.ofInt a), .int (Int32.ofInt b), .int (Int32.ofInt m)] (hOf σ) Q := by
  have ht := CT_t h
  have lTw := CT_L h
  have a8 : (8 ≤ t) = True := eq_true (by omega)
  rw [zWE]
  simp -implicitDefEqProofs only [zx_iconst, zx_bipush, zx_sipush, zx_lconst, zx_ldc, zx_ldcS, zx_ldc_w, zx_ldc2_w, zx_iload, zx_lload, zx_aload, zx_istore_n, zx_istore, zx_lstore_n, zx_lstore, zx_astore_n, zx_astore, zx_iinc, zx_iadd, zx_isub, zx_imul, zx_iand, zx_ior, zx_ixor, zx_ishl, zx_ishr, zx_iushr, zx_idiv, zx_irem, zx_ineg, zx_ladd, zx_lsub, zx_land, zx_lor, zx_lxor, zx_lneg, zx_lshl, zx_lushr, zx_i2l, zx_l2i, zx_lcmp, zx_dup, zx_dup2, zx_pop, zx_goto, zx_if_eq, zx_if_ne, zx_if_lt, zx_if_ge, zx_if_gt, zx_if_le, zx_icmp_eq, zx_icmp_ne, zx_icmp_lt, zx_icmp_ge, zx_icmp_gt, zx_icmp_le, zx_getfield, zx_putfield, zx_iaload, zx_laload, zx_aaload, zx_iastore, zx_lastore, zx_arraylength, zx_ireturn, zx_lreturn, zx_areturn, zx_return, zx_athrow, zx_static0, zx_static1, zx_virt1, zx_static2, zx_virt2, zx_static3, zx_virt3, zx_static4, zx_virt4, zx_static5, zx_virt5, zx_static6, zx_virt6, zx_static7, zx_virt7, zx_cpI, zx_cpL, ↓cpI, ↓cpL, zx_slen, zx_schr, zx_tsw, zx_spec3, new_X, zx_new1, zrun_nil, zrun_cons, ↓zgi_h, ↓zgi_n, ↓zgl_h, ↓zgl_n, ↓zgr_h, ↓zgr_n, zset1, zset2, zins_nil, zins_c, f3, cat_i, cat_l, cat_r, List.filter_cons, List.filter_nil, Bool.false_eq_true, l_of0, lv_args, Nat.reduceBEq, Nat.reduceAdd, Nat.reduceLeDiff, Nat.reduceLT, Bool.not_true, Bool.not_false, Bool.and_true, Bool.true_and, Bool.and_false, Bool.false_and, Nat.reduceEqDiff, reduceIte, List.contains_cons, List.contains_nil, Bool.or_false, Bool.or_true, Bool.false_or, Bool.true_or, Fin.isValue, Fin.val_zero, Fin.val_one, Fin.val_two, Fin.reduceFinMk, Option.toList_some, Option.toList_none, List.nil_append, List.cons_append, zwt_nil, zwt_i, zwt_l, zwt_r, zthr_nil, List.isEmpty_nil, zcE, ↓ar_k, lgc0, true_and, and_true, true_implies, implies_true, false_implies, forall_const, i_len, ob_0, ob_1, ↓bI_01, bI_0, not_true_eq_false, not_false_eq_true, Bool.not_eq_false, Bool.not_eq_true, ia_add, ia_sub, ia_mul, ia_neg, ↓ldI, ↓ldL, zaI_c, zaL_c, ↓zlen_I, ↓zlen_L, ↓stI, ↓stL, gD_sI, gN_sI, gI_sI, gJ_sI, gR_sI, gA_sI, gB_sI, gT_sI, gD_sJ, gN_sJ, gI_sJ, gJ_sJ, gR_sJ, gA_sJ, gB_sJ, gT_sJ, gD_sR, gN_sR, gI_sR, gJ_sR, gR_sR, gA_sR, gB_sR, gT_sR, gD_sA, gN_sA, gI_sA, gJ_sA, gR_sA, gA_sA, gB_sA, gT_sA, gD_sB, gN_sB, gI_sB, gJ_sB, gR_sB, gA_sB, gB_sB, gT_sB, zx_il0, zx_il1, zx_il2, zx_il3, zx_ll0, zx_ll1, zx_ll2, zx_ll3, zx_al0, zx_al1, zx_al2, zx_al3, e_has, e_bA, e_mn, e_mx, e_pcI, e_pcL, e_low, zml_181, zg181_0, zb181_0, zg181_59, zb181_59, zmc_181, zms_181, zow_181, zhd_181, ↓gf_8_13, ↓gf_8_2, ↓pp_8_2, ↓pq_8_2, ↓pw_8_2, show (Int8.ofInt 12).toInt32 = Int32.ofInt 12 from rfl, show ztg 6 53 = 59 from rfl, LTown_g lTw, LTown_d lTw, LTown_r6 lTw, LTown_k6 lTw, LTown_n6 lTw, LTown_r7 lTw, LTown_k7 lTw, LTown_n7 lTw, LTown_r8 lTw, LTown_k8 lTw, LTown_n8 lTw, LTown_r9 lTw, LTown_k9 lTw, LTown_n9 lTw, LTown_r10 lTw, LTown_k10 lTw, LTown_n10 lTw, LTown_r11 lTw, LTown_k11 lTw, LTown_n11 lTw, LTown_r12 lTw, LTown_k12 lTw, LTown_n12 lTw, LTown_r13 lTw, LTown_k13 lTw, LTown_n13 lTw, LTown_r14 lTw, LTown_k14 lTw, LTown_n14 lTw, LTown_r15 lTw, LTown_k15 lTw, LTown_n15 lTw, LTown_r16 lTw, LTown_k16 lTw, LTown_n16 lTw, LTown_r17 lTw, LTown_k17 lTw, LTown_n17 lTw, LTown_r18 lTw, LTown_k18 lTw, LTown_n18 lTw, CT_2 h, a8, gA_self, sA_sA]
  try simp (disch := omega) only [ii_lt, ii_le, ii_eq, ii_eq0, ii_lt0, ii_0lt, ii_le0, ii_0le, i_inT, i_natN, i_nat, ia_div, ia_rem, hs_ofI, i_1shl, i_or, i_bit, true_and, and_true, not_true_eq_false, not_false_eq_true, true_implies, false_implies, implies_true, Int.reduceLT, Int.reduceLE, Int.reduceEq, Int.reduceNeg, Int.toNat_natCast, Int.reduceToNat, Nat.reduceLeDiff, Nat.reduceAdd, tn_2, tn_2p, tn_48, tn_48r, tn_3, tn_3p, tn_3q, tn_p1, tn_d2, tn_12, ia_add, ia_sub, ia_mul]
  refine ⟨fun c => by omega, fun c => ?_⟩
  try simp (disch := omega) only [ii_lt, ii_le, ii_eq, ii_eq0, ii_lt0, ii_0lt, ii_le0, ii_0le, i_inT, i_natN, i_nat, ia_div, ia_rem, hs_ofI, i_1shl, i_or, i_bit, true_and, and_true, not_true_eq_false, not_false_eq_true, true_implies, false_implies, implies_true, Int.reduceLT, Int.reduceLE, Int.reduceEq, Int.reduceNeg, Int.toNat_natCast, Int.reduceToNat, Nat.reduceLeDiff, Nat.reduceAdd, tn_2, tn_2p, tn_48, tn_48r, tn_3, tn_3p, tn_3q, tn_p1, tn_d2, tn_12, ia_add, ia_sub, ia_mul]
  try refine ⟨by omega, by omega, by omega, ?_⟩
  refine hQ _ (fz_trans (fz_sA (by omega)) (fz_sI (by omega))) ?_ rfl ?_
  rotate_left 1
  · rw [gI_sI, if_neg (by omega)]
    rfl
  · obtain ⟨g1, g2, g3, g4, g5, g6, g7, g8, g9, g10, g11, g12, g13⟩ := h
    refine ⟨g1, g2, ?_, ?_, ?_, ?_, g7, ?_, ?_, ?_, ?_, ?_, fun r hr => ?_⟩
    · rw [gI_sI, if_neg (by omega)]
      exact g3
    · rw [gI_sI, if_neg (by omega)]
      exact g4
    · rw [gI_sI, if_pos ⟨rfl, rfl⟩]
      rfl
    · rw [gI_sI, if_neg (by omega)]
      exact g6
    · rw [gA_sI, gA_sA, if_neg (by omega)]
      exact g8
    · rw [gA_sI, gA_sA, if_neg (by omega)]
      exact g9
    · rw [gA_sI, gA_sA, if_neg (by omega)]
      exact g10
    · rw [gA_sI, gA_sA, if_neg (by omega)]
      exact g11
    · rw [gA_sI, gA_sA, if_neg (by omega)]
      exact g12
    · have hr : r < nR T + 1 := hr
      rw [gA_sI, gA_sA, if_pos rfl]
      show _ = Int32.ofInt ((if r = nR T then a else rA T r : Nat) : Int) ∧ _ = Int32.ofInt ((if r = nR T then b else rB T r : Nat) : Int) ∧ _ = Int32.ofInt ((if r = nR T then m else rM T r : Nat) : Int)
      by_cases e : r = nR T
      · rw [if_pos e, if_pos e, if_pos e, e]
        refine ⟨?_, ?_, ?_⟩
        · rw [upd_n (by omega), upd_n (by omega), upd_s]
        · rw [upd_n (by omega), upd_s]
        · rw [upd_s]
      · rw [if_neg e, if_neg e, if_neg e]
        obtain ⟨k1, k2, k3⟩ := g13 r (by omega)
        refine ⟨?_, ?_, ?_⟩
        · rw [upd_n (by omega), upd_n (by omega), upd_n (by omega)]
          exact k1
        · rw [upd_n (by omega), upd_n (by omega), upd_n (by omega)]
          exact k2
        · rw [upd_n (by omega), upd_n (by omega), upd_n (by omega)]
          exact k3
theorem u_addS {σ : zS} {t a b m : Nat} {T : Tw} {Q : zQ} (h : CT σ t T) (hw : wf T) (h1 : nS T < 24) (hQ : ∀ τ, fz t (t + 14) σ τ → CT τ t (tAS T a b m) → gB τ = gB σ → gI τ t 4 = gI σ t 4 → Q (.inl none) (hOf τ)) : zW zP 183 [.ref t, .int (Int32.ofInt a), .int (Int32.ofInt b), .int (Int32.ofInt m)] (hOf σ) Q := by
  have ht := CT_t h
  have lTw := CT_L h
  have a13 : (13 ≤ t) = True := eq_true (by omega)
  have a12 : (12 ≤ t) = True := eq_true (by omega)
  have a11 : (11 ≤ t) = True := eq_true (by omega)
  rw [zWE]
  simp -implicitDefEqProofs only [zx_iconst, zx_bipush, zx_sipush, zx_lconst, zx_ldc, zx_ldcS, zx_ldc_w, zx_ldc2_w, zx_iload, zx_lload, zx_aload, zx_istore_n, zx_istore, zx_lstore_n, zx_lstore, zx_astore_n, zx_astore, zx_iinc, zx_iadd, zx_isub, zx_imul, zx_iand, zx_ior, zx_ixor, zx_ishl, zx_ishr, zx_iushr, zx_idiv, zx_irem, zx_ineg, zx_ladd, zx_lsub, zx_land, zx_lor, zx_lxor, zx_lneg, zx_lshl, zx_lushr, zx_i2l, zx_l2i, zx_lcmp, zx_dup, zx_dup2, zx_pop, zx_goto, zx_if_eq, zx_if_ne, zx_if_lt, zx_if_ge, zx_if_gt, zx_if_le, zx_icmp_eq, zx_icmp_ne, zx_icmp_lt, zx_icmp_ge, zx_icmp_gt, zx_icmp_le, zx_getfield, zx_putfield, zx_iaload, zx_laload, zx_aaload, zx_iastore, zx_lastore, zx_arraylength, zx_ireturn, zx_lreturn, zx_areturn, zx_return, zx_athrow, zx_static0, zx_static1, zx_virt1, zx_static2, zx_virt2, zx_static3, zx_virt3, zx_static4, zx_virt4, zx_static5, zx_virt5, zx_static6, zx_virt6, zx_static7, zx_virt7, zx_cpI, zx_cpL, ↓cpI, ↓cpL, zx_slen, zx_schr, zx_tsw, zx_spec3, new_X, zx_new1, zrun_nil, zrun_cons, ↓zgi_h, ↓zgi_n, ↓zgl_h, ↓zgl_n, ↓zgr_h, ↓zgr_n, zset1, zset2, zins_nil, zins_c, f3, cat_i, cat_l, cat_r, List.filter_cons, List.filter_nil, Bool.false_eq_true, l_of0, lv_args, Nat.reduceBEq, Nat.reduceAdd, Nat.reduceLeDiff, Nat.reduceLT, Bool.not_true, Bool.not_false, Bool.and_true, Bool.true_and, Bool.and_false, Bool.false_and, Nat.reduceEqDiff, reduceIte, List.contains_cons, List.contains_nil, Bool.or_false, Bool.or_true, Bool.false_or, Bool.true_or, Fin.isValue, Fin.val_zero, Fin.val_one, Fin.val_two, Fin.reduceFinMk, Option.toList_some, Option.toList_none, List.nil_append, List.cons_append, zwt_nil, zwt_i, zwt_l, zwt_r, zthr_nil, List.isEmpty_nil, zcE, ↓ar_k, lgc0, true_and, and_true, true_implies, implies_true, false_implies, forall_const, i_len, ob_0, ob_1, ↓bI_01, bI_0, not_true_eq_false, not_false_eq_true, Bool.not_eq_false, Bool.not_eq_true, ia_add, ia_sub, ia_mul, ia_neg, ↓ldI, ↓ldL, zaI_c, zaL_c, ↓zlen_I, ↓zlen_L, ↓stI, ↓stL, gD_sI, gN_sI, gI_sI, gJ_sI, gR_sI, gA_sI, gB_sI, gT_sI, gD_sJ, gN_sJ, gI_sJ, gJ_sJ, gR_sJ, gA_sJ, gB_sJ, gT_sJ, gD_sR, gN_sR, gI_sR, gJ_sR, gR_sR, gA_sR, gB_sR, gT_sR, gD_sA, gN_sA, gI_sA, gJ_sA, gR_sA, gA_sA, gB_sA, gT_sA, gD_sB, gN_sB, gI_sB, gJ_sB, gR_sB, gA_sB, gB_sB, gT_sB, zx_il0, zx_il1, zx_il2, zx_il3, zx_ll0, zx_ll1, zx_ll2, zx_ll3, zx_al0, zx_al1, zx_al2, zx_al3, e_has, e_bA, e_mn, e_mx, e_pcI, e_pcL, e_low, zml_183, zg183_0, zb183_0, zg183_97, zb183_97, zmc_22, zms_22, zow_22, zhd_22, zmc_183, zms_183, zow_183, zhd_183, ↓gf_8_1, ↓gf_8_10, ↓gf_8_5, ↓gf_8_8, ↓gf_8_9, ↓pp_8_1, ↓pp_8_5, ↓pq_8_1, ↓pq_8_5, ↓pw_8_1, ↓pw_8_5, show (Int8.ofInt 24).toInt32 = Int32.ofInt 24 from rfl, show ztg 6 91 = 97 from rfl, LTown_g lTw, LTown_d lTw, LTown_r6 lTw, LTown_k6 lTw, LTown_n6 lTw, LTown_r7 lTw, LTown_k7 lTw, LTown_n7 lTw, LTown_r8 lTw, LTown_k8 lTw, LTown_n8 lTw, LTown_r9 lTw, LTown_k9 lTw, LTown_n9 lTw, LTown_r10 lTw, LTown_k10 lTw, LTown_n10 lTw, LTown_r11 lTw, LTown_k11 lTw, LTown_n11 lTw, LTown_r12 lTw, LTown_k12 lTw, LTown_n12 lTw, LTown_r13 lTw, LTown_k13 lTw, LTown_n13 lTw, LTown_r14 lTw, LTown_k14 lTw, LTown_n14 lTw, LTown_r15 lTw, LTown_k15 lTw, LTown_n15 lTw, LTown_r16 lTw, LTown_k16 lTw, LTown_n16 lTw, LTown_r17 lTw, LTown_k17 lTw, LTown_n17 lTw, LTown_r18 lTw, LTown_k18 lTw, LTown_n18 lTw, CT_1 h, a13, a12, a11, gA_self, sA_sA, Nat.add_left_cancel_iff]
  try simp (disch := omega) only [ii_lt, ii_le, ii_eq, ii_eq0, ii_lt0, ii_0lt, ii_le0, ii_0le, i_inT, i_natN, i_nat, ia_div, ia_rem, hs_ofI, i_1shl, i_or, i_bit, true_and, and_true, not_true_eq_false, not_false_eq_true, true_implies, false_implies, implies_true, Int.reduceLT, Int.reduceLE, Int.reduceEq, Int.reduceNeg, Int.toNat_natCast, Int.reduceToNat, Nat.reduceLeDiff, Nat.reduceAdd, tn_2, tn_2p, tn_48, tn_48r, tn_3, tn_3p, tn_3q, tn_p1, tn_d2, tn_12, ia_add, ia_sub, ia_mul]
  refine ⟨fun c => by omega, fun c => ?_⟩
  try simp (disch := omega) only [ii_lt, ii_le, ii_eq, ii_eq0, ii_lt0, ii_0lt, ii_le0, ii_0le, i_inT, i_natN, i_nat, ia_div, ia_rem, hs_ofI, i_1shl, i_or, i_bit, true_and, and_true, not_true_eq_false, not_false_eq_true, true_implies, false_implies, implies_true, Int.reduceLT, Int.reduceLE, Int.reduceEq, Int.reduceNeg, Int.toNat_natCast, Int.reduceToNat, Nat.reduceLeDiff, Nat.reduceAdd, tn_2, tn_2p, tn_48, tn_48r, tn_3, tn_3p, tn_3q, tn_p1, tn_d2, tn_12, ia_add, ia_sub, ia_mul]
  try refine ⟨by omega, by omega, by omega, by omega, by omega, by omega, ?_⟩
  refine hQ _ (fz_trans (fz_trans (fz_trans (fz_trans (fz_trans (fz_trans (fz_sA (by omega)) (fz_sA (by omega))) (fz_sA (by omega))) (fz_sA (by omega))) (fz_sA (by omega))) (fz_sA (by omega))) (fz_trans (fz_sJ (by omega)) (fz_sI (by omega)))) ?_ rfl ?_
  rotate_left 1
  · rw [gI_sI, if_neg (by omega)]
    rfl
  · obtain ⟨g1, g2, g3, g4, g5, g6, g7, g8, g9, g10, g11, g12, g13⟩ := h
    have hw2 := hw.2.1
    have upd2 : ∀ (v : Nat → Nat) (o : Nat → Int32) (x y : Nat), (∀ i, i < 2 * nS T → o i = Int32.ofInt (v i)) → ∀ i, i < 2 * (nS T + 1) → upd (upd o (2 * nS T) (Int32.ofInt x)) (2 * nS T + 1) (Int32.ofInt y) i = Int32.ofInt ((if i = 2 * nS T then x else if i = 2 * nS T + 1 then y else v i : Nat) : Int) := by
      intro v o x y ho i hi
      by_cases e1 : i = 2 * nS T + 1
      · rw [e1, upd_s, if_neg (by omega), if_pos rfl]
      · rw [upd_n e1]
        by_cases e2 : i = 2 * nS T
        · rw [e2, upd_s, if_pos rfl]
        · rw [upd_n e2, if_neg e2, if_neg e1]
          exact ho i (by omega)
    have hbg : ∀ i, i < 2 * (nS T + 1) → bg (tAS T a b m) i = if i = 2 * nS T then a else if i = 2 * nS T + 1 then b else bg T i := by
      intro i hi
      show (if i % 2 = 0 then (if i / 2 = nS T then a else tA T (i / 2)) else (if i / 2 = nS T then b else tB T (i / 2))) = _
      by_cases e1 : i = 2 * nS T
      · rw [if_pos e1, if_pos (by omega), if_pos (by omega)]
      · rw [if_neg e1]
        by_cases e2 : i = 2 * nS T + 1
        · rw [if_pos e2, if_neg (by omega), if_pos (by omega)]
        · rw [if_neg e2, if_neg (show ¬ i / 2 = nS T by omega), if_neg (show ¬ i / 2 = nS T by omega)]
          rfl
    have hen : ∀ i, i < 2 * (nS T + 1) → en (tAS T a b m) i = if i = 2 * nS T then b else if i = 2 * nS T + 1 then a else en T i := by
      intro i hi
      show (if i % 2 = 0 then (if i / 2 = nS T then b else tB T (i / 2)) else (if i / 2 = nS T then a else tA T (i / 2))) = _
      by_cases e1 : i = 2 * nS T
      · rw [if_pos e1, if_pos (by omega), if_pos (by omega)]
      · rw [if_neg e1]
        by_cases e2 : i = 2 * nS T + 1
        · rw [if_pos e2, if_neg (by omega), if_pos (by omega)]
        · rw [if_neg e2, if_neg (show ¬ i / 2 = nS T by omega), if_neg (show ¬ i / 2 = nS T by omega)]
          rfl
    have hln : ∀ i, i < 2 * (nS T + 1) → ln (tAS T a b m) i = if i = 2 * nS T then m else if i = 2 * nS T + 1 then m else ln T i := by
      intro i hi
      show (if i / 2 = nS T then m else tN T (i / 2)) = _
      by_cases e1 : i = 2 * nS T
      · rw [if_pos e1, if_pos (by omega)]
      · rw [if_neg e1]
        by_cases e2 : i = 2 * nS T + 1
        · rw [if_pos e2, if_pos (by omega)]
        · rw [if_neg e2, if_neg (show ¬ i / 2 = nS T by omega)]
          rfl
    refine ⟨g1, g2, ?_, ?_, ?_, ?_, fun i => ?_, ?_, ?_, fun i hi => ?_, fun i hi => ?_, fun i hi => ?_, ?_⟩
    · rw [gI_sI, if_neg (by omega)]
      exact g3
    · rw [gI_sI, if_pos ⟨rfl, rfl⟩]
      rfl
    · rw [gI_sI, if_neg (by omega)]
      exact g5
    · rw [gI_sI, if_neg (by omega)]
      exact g6
    · rw [gJ_sI, gJ_sJ, if_pos ⟨rfl, rfl⟩, bt_or, isA_AS, bt_bA (by omega)]
      rw [show bt (gJ σ t 5) i = isA T i from g7 i]
    · simp (disch := omega) only [gA_sI, gA_sJ, gA_sA, if_neg]
      exact g8
    · simp (disch := omega) only [gA_sI, gA_sJ, gA_sA, if_neg]
      exact g9
    · rw [hbg i hi, ← upd2 (bg T) (gA σ (t + 3)) a b g10 i hi]
      simp (disch := omega) only [gA_sI, gA_sJ, gA_sA, if_neg, if_pos, if_true]
    · rw [hen i hi, ← upd2 (en T) (gA σ (t + 4)) b a g11 i hi]
      simp (disch := omega) only [gA_sI, gA_sJ, gA_sA, if_neg, if_pos, if_true]
    · rw [hln i hi, ← upd2 (ln T) (gA σ (t + 5)) m m g12 i hi]
      simp (disch := omega) only [gA_sI, gA_sJ, gA_sA, if_neg, if_pos, if_true]
    · simp (disch := omega) only [gA_sI, gA_sJ, gA_sA, if_neg]
      exact g13
