/-! THE POST: its stops, its rows -/
/-- with new cells: outside of lo to hi, below 1283, all is as it was -/
def fw (lo hi : Nat) (σ τ : zS) : Prop := gT σ ≤ gT τ ∧ ∀ a, a < 1283 → a < lo ∨ hi ≤ a → sm σ τ a
theorem fw_refl {lo hi : Nat} {σ : zS} : fw lo hi σ σ := ⟨Nat.le_refl _, fun _ _ _ => sm_refl⟩
theorem fw_trans {lo hi : Nat} {σ τ ρ : zS} (h : fw lo hi σ τ) (g : fw lo hi τ ρ) : fw lo hi σ ρ := ⟨Nat.le_trans h.1 g.1, fun a h1 h2 => sm_trans (h.2 a h1 h2) (g.2 a h1 h2)⟩
theorem fw_wide {lo hi lo2 hi2 : Nat} {σ τ : zS} (h : fw lo hi σ τ) (h1 : lo2 ≤ lo) (h2 : hi ≤ hi2) : fw lo2 hi2 σ τ := ⟨h.1, fun a k1 k2 => h.2 a k1 (by omega)⟩
theorem fw_fz {lo hi : Nat} {σ τ : zS} (h : fz lo hi σ τ) : fw lo hi σ τ := ⟨by rw [h.2.2.2.1]; exact Nat.le_refl _, fun a _ k => fz_sm h k⟩
theorem fw_sA {lo hi q : Nat} {σ : zS} {f : Nat → Int32} (h : (lo ≤ q ∧ q < hi) ∨ 1283 ≤ q) : fw lo hi σ (sA σ q f) := ⟨Nat.le_refl _, fun a k1 k2 => sm_sA (by omega)⟩
theorem fw_sI {lo hi q k : Nat} {σ : zS} {x : Int32} (h : (lo ≤ q ∧ q < hi) ∨ 1283 ≤ q) : fw lo hi σ (sI σ q k x) := ⟨Nat.le_refl _, fun a k1 k2 => sm_sI (by omega)⟩
theorem fw_sR {lo hi q k x : Nat} {σ : zS} (h : (lo ≤ q ∧ q < hi) ∨ 1283 ≤ q) : fw lo hi σ (sR σ q k x) := ⟨Nat.le_refl _, fun a k1 k2 => sm_sR (by omega)⟩
theorem fw_nA {lo hi n : Nat} {σ : zS} (h : 1283 ≤ gT σ) : fw lo hi σ (nA σ n) := ⟨Nat.le_succ _, fun a k1 k2 => sm_nA (by omega)⟩
theorem fw_nX {lo hi : Nat} {σ : zS} (h : 1283 ≤ gT σ) : fw lo hi σ (nX σ) := ⟨Nat.le_succ _, fun a k1 k2 => sm_nX (by omega)⟩
theorem LA_fw {lo hi : Nat} {σ τ : zS} (f : fw lo hi σ τ) (h1 : 56 ≤ lo ∧ hi ≤ 69) (h : LA σ) (hr : LRoutes τ) (hc : LChoices τ) (hp : LPost τ) : LA τ := by
  have eD : ∀ a, a < 56 ∨ (69 ≤ a ∧ a < 1283) → gD τ a = gD σ a := fun a ha => (f.2 a (by omega) (by omega)).1
  have eN : ∀ a, a < 56 ∨ (69 ≤ a ∧ a < 1283) → gN τ a = gN σ a := fun a ha => (f.2 a (by omega) (by omega)).2.1
  have eR : ∀ a, a < 56 ∨ (69 ≤ a ∧ a < 1283) → gR τ a = gR σ a := fun a ha => (f.2 a (by omega) (by omega)).2.2.2.2.1
  obtain ⟨g1, g2, g3, g4, g5, g6, g7, g8, g9, g10, g11⟩ := h
  refine ⟨?_, ?_, ?_, ?_, ?_, hr, hc, hp, ?_, ?_, ?_⟩
  · unfold LMain at g1 ⊢
    simp (disch := omega) only [eD, eN, eR]
    exact g1
  · unfold LTown at g2 ⊢
    simp (disch := omega) only [eD, eN, eR]
    exact g2
  · unfold LTown at g3 ⊢
    simp (disch := omega) only [eD, eN, eR]
    exact g3
  · unfold LChanges at g4 ⊢
    simp (disch := omega) only [eD, eN, eR]
    exact g4
  · unfold LRules at g5 ⊢
    simp (disch := omega) only [eD, eN, eR]
    exact g5
  · unfold LTraffic at g9 ⊢
    simp (disch := omega) only [eD, eN, eR]
    exact g9
  · unfold LStory at g10 ⊢
    simp (disch := omega) only [eD, eN, eR]
    exact g10
  · unfold LImages at g11 ⊢
    simp (disch := omega) only [eD, eN, eR]
    exact g11
theorem QC_fw {lo hi t : Nat} {σ τ : zS} {T : Tw} {r : Rl} (f : fw lo hi σ τ) (h1 : 56 ≤ lo ∧ hi ≤ 69) (h : QC σ t T r) (hr : LRoutes τ) (hc : LChoices τ) (hp : LPost τ) : QC τ t T r := by
  have ht := CT_t (QC_T h)
  have e : ∀ a, a < 56 → sm σ τ a := fun a ha => f.2 a (by omega) (by omega)
  refine ⟨LA_fw f h1 (QC_A h) hr hc hp, CT_sm (QC_T h) (fun k hk => e _ (by omega)), QC_w h, CS_sm (QC_S h) (fun k hk => e _ (by omega)), ?_, ?_, ?_⟩
  · obtain ⟨h2, h3⟩ := QC_l h
    unfold CLf
    rw [(e t (by omega)).2.2.1, (e (t + 13) (by omega)).2.2.2.2.2.1]
    exact ⟨h2, h3⟩
  · rw [(e 53 (by omega)).2.2.2.2.2.2, (e 54 (by omega)).2.2.2.2.2.2]
    exact QC_r h
  · rw [(e 55 (by omega)).2.2.2.2.2.2]
    exact h.2.2.2.2.2.2
/-- where the two rows lie -/
def PS (σ : zS) (p b : Nat) : Prop := LPost σ ∧ gR σ 63 0 = p ∧ gD σ p = 1 ∧ gR σ 63 1 = b ∧ gD σ b = 1 ∧ p ≠ b ∧ ((p = 64 ∨ 1283 ≤ p) ∧ (b = 65 ∨ 1283 ≤ b)) ∧ p < gT σ ∧ b < gT σ ∧ 1283 ≤ gT σ ∧ (gN σ p = 0 ∨ gN σ p = 2304) ∧ (gN σ b = 0 ∨ gN σ b = 2048 ∨ gN σ b = 4096 ∨ gN σ b = 8192 ∨ gN σ b = 16384 ∨ gN σ b = 32768 ∨ gN σ b = 65536)
theorem PS_L {σ : zS} {p b : Nat} (h : PS σ p b) : LPost σ := h.1
theorem PS_p {σ : zS} {p b : Nat} (h : PS σ p b) : gR σ 63 0 = p := h.2.1
theorem PS_dp {σ : zS} {p b : Nat} (h : PS σ p b) : gD σ p = 1 := h.2.2.1
theorem PS_b {σ : zS} {p b : Nat} (h : PS σ p b) : gR σ 63 1 = b := h.2.2.2.1
theorem PS_db {σ : zS} {p b : Nat} (h : PS σ p b) : gD σ b = 1 := h.2.2.2.2.1
theorem PS_r {σ : zS} {p b : Nat} (h : PS σ p b) : p ≠ b ∧ ((p = 64 ∨ 1283 ≤ p) ∧ (b = 65 ∨ 1283 ≤ b)) ∧ p < gT σ ∧ b < gT σ ∧ 1283 ≤ gT σ ∧ (gN σ p = 0 ∨ gN σ p = 2304) ∧ (gN σ b = 0 ∨ gN σ b = 2048 ∨ gN σ b = 4096 ∨ gN σ b = 8192 ∨ gN σ b = 16384 ∨ gN σ b = 32768 ∨ gN σ b = 65536) := h.2.2.2.2.2
/-- kinds, lengths and references are as they were -/
def fs (σ τ : zS) : Prop := gD τ = gD σ ∧ gN τ = gN σ ∧ gR τ = gR σ ∧ gT τ = gT σ
theorem PS_fs {σ τ : zS} {p b : Nat} (f : fs σ τ) (h : PS σ p b) : PS τ p b := by
  unfold PS LPost at h ⊢
  rw [f.1, f.2.1, f.2.2.1, f.2.2.2]
  exact h
theorem fs_z {lo hi : Nat} {σ τ : zS} (f : fz lo hi σ τ) : fs σ τ := ⟨f.1, f.2.1, f.2.2.1, f.2.2.2.1⟩
theorem u_mbet {σ : zS} {p b : Nat} {Q : zQ} (h : PS σ p b) (hQ : ∀ τ p2, fw 63 66 σ τ → PS τ p2 b → gN τ p2 = 2304 → gI τ 63 = gI σ 63 → (∀ a, a ≠ p2 → gA τ a = gA σ a) → gN τ b = gN σ b → Q (.inl none) (hOf τ)) : zW zP 58 [.ref 63] (hOf σ) Q := by
  have hr := PS_r h
  have d63 : gD (nA σ 2304) 63 = 7 := (if_neg (show ¬ (63 = gT σ) from by omega)).trans (LPost_d (PS_L h))
  rw [zWE]
  simp -implicitDefEqProofs only [zx_iconst, zx_bipush, zx_sipush, zx_lconst, zx_ldc, zx_ldcS, zx_ldc_w, zx_ldc2_w, zx_iload, zx_lload, zx_aload, zx_istore_n, zx_istore, zx_lstore_n, zx_lstore, zx_astore_n, zx_astore, zx_iinc, zx_iadd, zx_isub, zx_imul, zx_iand, zx_ior, zx_ixor, zx_ishl, zx_ishr, zx_iushr, zx_idiv, zx_irem, zx_ineg, zx_ladd, zx_lsub, zx_land, zx_lor, zx_lxor, zx_lneg, zx_lshl, zx_lushr, zx_i2l, zx_l2i, zx_lcmp, zx_dup, zx_dup2, zx_pop, zx_goto, zx_if_eq, zx_if_ne, zx_if_lt, zx_if_ge, zx_if_gt, zx_if_le, zx_icmp_eq, zx_icmp_ne, zx_icmp_lt, zx_icmp_ge, zx_icmp_gt, zx_icmp_le, zx_getfield, zx_putfield, zx_iaload, zx_laload, zx_aaload, zx_iastore, zx_lastore, zx_arraylength, zx_ireturn, zx_lreturn, zx_areturn, zx_return, zx_athrow, zx_static0, zx_static1, zx_virt1, zx_static2, zx_virt2, zx_static3, zx_virt3, zx_static4, zx_virt4, zx_static5, zx_virt5, zx_static6, zx_virt6, zx_static7, zx_virt7, zx_cpI, zx_cpL, ↓cpI, ↓cpL, zx_slen, zx_schr, zx_tsw, zx_spec3, new_X, zx_new1, zrun_nil, zrun_cons, ↓zgi_h, ↓zgi_n, ↓zgl_h, ↓zgl_n, ↓zgr_h, ↓zgr_n, zset1, zset2, zins_nil, zins_c, f3, cat_i, cat_l, cat_r, List.filter_cons, List.filter_nil, Bool.false_eq_true, l_of0, lv_args, Nat.reduceBEq, Nat.reduceAdd, Nat.reduceLeDiff, Nat.reduceLT, Bool.not_true, Bool.not_false, Bool.and_true, Bool.true_and, Bool.and_false, Bool.false_and, Nat.reduceEqDiff, reduceIte, List.contains_cons, List.contains_nil, Bool.or_false, Bool.or_true, Bool.false_or, Bool.true_or, Fin.isValue, Fin.val_zero, Fin.val_one, Fin.val_two, Fin.reduceFinMk, Option.toList_some, Option.toList_none, List.nil_append, List.cons_append, zwt_nil, zwt_i, zwt_l, zwt_r, zthr_nil, List.isEmpty_nil, zcE, ↓ar_k, lgc0, true_and, and_true, true_implies, implies_true, false_implies, forall_const, i_len, ob_0, ob_1, ↓bI_01, bI_0, not_true_eq_false, not_false_eq_true, Bool.not_eq_false, Bool.not_eq_true, ia_add, ia_sub, ia_mul, ia_neg, ↓ldI, ↓ldL, zaI_c, zaL_c, ↓zlen_I, ↓zlen_L, ↓stI, ↓stL, gD_sI, gN_sI, gI_sI, gJ_sI, gR_sI, gA_sI, gB_sI, gT_sI, gD_sJ, gN_sJ, gI_sJ, gJ_sJ, gR_sJ, gA_sJ, gB_sJ, gT_sJ, gD_sR, gN_sR, gI_sR, gJ_sR, gR_sR, gA_sR, gB_sR, gT_sR, gD_sA, gN_sA, gI_sA, gJ_sA, gR_sA, gA_sA, gB_sA, gT_sA, gD_sB, gN_sB, gI_sB, gJ_sB, gR_sB, gA_sB, gB_sB, gT_sB, zx_il0, zx_il1, zx_il2, zx_il3, zx_ll0, zx_ll1, zx_ll2, zx_ll3, zx_al0, zx_al1, zx_al2, zx_al3, e_has, e_bA, e_mn, e_mx, e_pcI, e_pcL, e_low, zml_58, zg58_0, zb58_0, zg58_17, zb58_17, zmc_58, zms_58, zow_58, zhd_58, ↓gf_3_0, ↓pp_3_0, ↓pq_3_0, ↓pw_3_0, show (Int16.ofInt 2304).toInt32 = Int32.ofInt 2304 from rfl, show ztg 5 12 = 17 from rfl, LPost_d (PS_L h), LPost_r2 (PS_L h), LPost_k2 (PS_L h), LPost_n2 (PS_L h), LPost_r4 (PS_L h), LPost_k4 (PS_L h), LPost_n4 (PS_L h), LPost_r5 (PS_L h), LPost_k5 (PS_L h), LPost_n5 (PS_L h), PS_p h, PS_dp h, d63]
  try simp (disch := omega) only [ii_lt, ii_le, ii_eq, ii_eq0, ii_lt0, ii_0lt, ii_le0, ii_0le, i_inT, i_natN, i_nat, ia_div, ia_rem, hs_ofI, i_1shl, i_or, i_bit, true_and, and_true, not_true_eq_false, not_false_eq_true, true_implies, false_implies, implies_true, Int.reduceLT, Int.reduceLE, Int.reduceEq, Int.reduceNeg, Int.toNat_natCast, Int.reduceToNat, Nat.reduceLeDiff, Nat.reduceAdd, tn_2, tn_2p, tn_48, tn_48r, tn_3, tn_3p, tn_3q, tn_p1, tn_d2, tn_12, ia_add, ia_sub, ia_mul]
  refine ⟨fun c => ?_, fun c => ?_⟩
  · exact hQ σ p fw_refl h (by omega) rfl (fun a _ => rfl) rfl
  · have hq : ∀ a, a < gT σ → sm σ (sR (nA σ 2304) 63 0 (gT σ)) a ∨ a = 63 := by
      intro a ha
      by_cases e : a = 63
      · exact .inr e
      · exact .inl (sm_trans (sm_nA ha) (sm_sR e))
    have e63 : ∀ k, gR (sR (nA σ 2304) 63 0 (gT σ)) 63 k = if k = 0 then gT σ else gR σ 63 k := by
      intro k
      rw [gR_sR]
      by_cases e : k = 0
      · rw [if_pos ⟨rfl, e⟩, if_pos e]
      · rw [if_neg (fun z => e z.2), if_neg e]
        rfl
    have eD : ∀ a, a < gT σ → gD (sR (nA σ 2304) 63 0 (gT σ)) a = gD σ a := fun a ha => if_neg (by omega)
    have eN : ∀ a, a < gT σ → gN (sR (nA σ 2304) 63 0 (gT σ)) a = gN σ a := fun a ha => if_neg (by omega)
    have dT : gD (sR (nA σ 2304) 63 0 (gT σ)) (gT σ) = 1 := if_pos rfl
    have nT : gN (sR (nA σ 2304) 63 0 (gT σ)) (gT σ) = 2304 := if_pos rfl
    simp -implicitDefEqProofs only [zx_iconst, zx_bipush, zx_sipush, zx_lconst, zx_ldc, zx_ldcS, zx_ldc_w, zx_ldc2_w, zx_iload, zx_lload, zx_aload, zx_istore_n, zx_istore, zx_lstore_n, zx_lstore, zx_astore_n, zx_astore, zx_iinc, zx_iadd, zx_isub, zx_imul, zx_iand, zx_ior, zx_ixor, zx_ishl, zx_ishr, zx_iushr, zx_idiv, zx_irem, zx_ineg, zx_ladd, zx_lsub, zx_land, zx_lor, zx_lxor, zx_lneg, zx_lshl, zx_lushr, zx_i2l, zx_l2i, zx_lcmp, zx_dup, zx_dup2, zx_pop, zx_goto, zx_if_eq, zx_if_ne, zx_if_lt, zx_if_ge, zx_if_gt, zx_if_le, zx_icmp_eq, zx_icmp_ne, zx_icmp_lt, zx_icmp_ge, zx_icmp_gt, zx_icmp_le, zx_getfield, zx_putfield, zx_iaload, zx_laload, zx_aaload, zx_iastore, zx_lastore, zx_arraylength, zx_ireturn, zx_lreturn, zx_areturn, zx_return, zx_athrow, zx_static0, zx_static1, zx_virt1, zx_static2, zx_virt2, zx_static3, zx_virt3, zx_static4, zx_virt4, zx_static5, zx_virt5, zx_static6, zx_virt6, zx_static7, zx_virt7, zx_cpI, zx_cpL, ↓cpI, ↓cpL, zx_slen, zx_schr, zx_tsw, zx_spec3, new_X, zx_new1, zrun_nil, zrun_cons, ↓zgi_h, ↓zgi_n, ↓zgl_h, ↓zgl_n, ↓zgr_h, ↓zgr_n, zset1, zset2, zins_nil, zins_c, f3, cat_i, cat_l, cat_r, List.filter_cons, List.filter_nil, Bool.false_eq_true, l_of0, lv_args, Nat.reduceBEq, Nat.reduceAdd, Nat.reduceLeDiff, Nat.reduceLT, Bool.not_true, Bool.not_false, Bool.and_true, Bool.true_and, Bool.and_false, Bool.false_and, Nat.reduceEqDiff, reduceIte, List.contains_cons, List.contains_nil, Bool.or_false, Bool.or_true, Bool.false_or, Bool.true_or, Fin.isValue, Fin.val_zero, Fin.val_one, Fin.val_two, Fin.reduceFinMk, Option.toList_some, Option.toList_none, List.nil_append, List.cons_append, zwt_nil, zwt_i, zwt_l, zwt_r, zthr_nil, List.isEmpty_nil, zcE, ↓ar_k, lgc0, true_and, and_true, true_implies, implies_true, false_implies, forall_const, i_len, ob_0, ob_1, ↓bI_01, bI_0, not_true_eq_false, not_false_eq_true, Bool.not_eq_false, Bool.not_eq_true, ia_add, ia_sub, ia_mul, ia_neg, ↓ldI, ↓ldL, zaI_c, zaL_c, ↓zlen_I, ↓zlen_L, ↓stI, ↓stL, gD_sI, gN_sI, gI_sI, gJ_sI, gR_sI, gA_sI, gB_sI, gT_sI, gD_sJ, gN_sJ, gI_sJ, gJ_sJ, gR_sJ, gA_sJ, gB_sJ, gT_sJ, gD_sR, gN_sR, gI_sR, gJ_sR, gR_sR, gA_sR, gB_sR, gT_sR, gD_sA, gN_sA, gI_sA, gJ_sA, gR_sA, gA_sA, gB_sA, gT_sA, gD_sB, gN_sB, gI_sB, gJ_sB, gR_sB, gA_sB, gB_sB, gT_sB, zx_il0, zx_il1, zx_il2, zx_il3, zx_ll0, zx_ll1, zx_ll2, zx_ll3, zx_al0, zx_al1, zx_al2, zx_al3, e_has, e_bA, e_mn, e_mx, e_pcI, e_pcL, e_low, zml_58, zg58_0, zb58_0, zg58_17, zb58_17, zmc_58, zms_58, zow_58, zhd_58, ↓gf_3_0, ↓pp_3_0, ↓pq_3_0, ↓pw_3_0, show (Int16.ofInt 2304).toInt32 = Int32.ofInt 2304 from rfl, show ztg 5 12 = 17 from rfl, LPost_d (PS_L h), LPost_r2 (PS_L h), LPost_k2 (PS_L h), LPost_n2 (PS_L h), LPost_r4 (PS_L h), LPost_k4 (PS_L h), LPost_n4 (PS_L h), LPost_r5 (PS_L h), LPost_k5 (PS_L h), LPost_n5 (PS_L h), d63]
    first
    | refine hQ (sR (nA σ 2304) 63 0 (gT σ)) (gT σ) (fw_trans (fw_nA (by omega)) (fw_sR (by omega))) ?_ nT rfl (fun a ha => if_neg ha) (eN b (by omega))
    | refine ⟨by omega, by omega, by omega, ?_⟩
      refine hQ (sR (nA σ 2304) 63 0 (gT σ)) (gT σ) (fw_trans (fw_nA (by omega)) (fw_sR (by omega))) ?_ nT rfl (fun a ha => if_neg ha) (eN b (by omega))
    refine ⟨?_, ?_, dT, ?_, ?_, by omega, by omega, ?_, ?_, ?_, ?_, ?_⟩
    · have hl := PS_L h
      unfold LPost at hl ⊢
      simp (disch := omega) only [eD, eN, e63]
      exact hl
    · rw [e63, if_pos rfl]
    · rw [e63, if_neg (by omega)]
      exact PS_b h
    · rw [eD b (by omega)]
      exact PS_db h
    · show gT σ < gT σ + 1
      omega
    · show b < gT σ + 1
      omega
    · show 1283 ≤ gT σ + 1
      omega
    · exact .inr nT
    · rw [eN b (by omega)]
      exact hr.2.2.2.2.2.2
