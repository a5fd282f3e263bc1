/-! THE CLASS'S STATE -/
abbrev Ab : Type := ((Nat → Nat) × Nat × Int) × Tw × (Nat → Rl) × Nat × ((Nat → Nat) × Nat) × Nat × (Nat → Nat) × (Nat → Nat) × (Nat → Nat → Nat)
def xF (s : Ab) : Nat → Nat := s.1.1
def xN (s : Ab) : Nat := s.1.2.1
def xP (s : Ab) : Int := s.1.2.2
def xT (s : Ab) : Tw := s.2.1
def xH (s : Ab) : Nat → Rl := s.2.2.1
def xn (s : Ab) : Nat := s.2.2.2.1
def xU (s : Ab) : Nat → Nat := s.2.2.2.2.1.1
def xm (s : Ab) : Nat := s.2.2.2.2.1.2
def xK (s : Ab) : Nat := s.2.2.2.2.2.1
def xi0 (s : Ab) : Nat → Nat := s.2.2.2.2.2.2.1
def xi1 (s : Ab) : Nat → Nat := s.2.2.2.2.2.2.2.1
def xi2 (s : Ab) : Nat → Nat → Nat := s.2.2.2.2.2.2.2.2
def Wv (s : Ab) : Prop := xN s ≤ 500 ∧ (∀ j, j < xN s → xF s j < 256) ∧ True ∧ wf (xT s) ∧ xn s ≤ 200 ∧ xm s ≤ 12 ∧ (∀ j, j < xm s → xU s j < nC (xT s)) ∧ xK s ≤ 3 ∧ (∀ k, k < xK s → xi0 s k ≤ xn s ∧ xi1 s k ≤ 12 ∧ ∀ j, j < xi1 s k → xi2 s k j < nC (xT s)) ∧ ∀ k j, k ≤ j → j < xK s → xi0 s k ≤ xi0 s j
/-- images -/
def CM (σ : zS) (s : Ab) : Prop := gI σ 84 0 = Int32.ofInt (xK s) ∧ ∀ k, k < xK s → gA σ 85 k = Int32.ofInt (xi0 s k) ∧ gA σ 86 k = Int32.ofInt (xi1 s k) ∧ ∀ j, j < xi1 s k → gA σ 87 (k * 12 + j) = Int32.ofInt (xi2 s k j)
def CI (σ : zS) (t : Nat) (s : Ab) : Prop := Wv s ∧ LA σ ∧ (CT σ t (xT s) ∧ gR σ 16 3 = t ∧ gR σ 16 4 = 50 - t) ∧ CS σ t (xT s) ∧ CLf σ t (xT s) ∧ CH σ t (xH s) ∧ (gI σ 48 0 = Int32.ofInt (xn s) ∧ CL σ (xH s) (xn s)) ∧ CU σ (xT s) (xU s) (xm s) ∧ (gI σ 16 1 = Int32.ofInt (xN s) ∧ (∀ j, j < xN s → gA σ 17 j = Int32.ofInt (xF s j)) ∧ gI σ 16 2 = Int32.ofInt (xP s)) ∧ CM σ s ∧ (∃ p b, PS σ p b) ∧ (∃ q : Nat, q < 16 ∧ gI σ 59 6 = Int32.ofInt q) ∧ 1283 ≤ gT σ
theorem CI_v {σ : zS} {t : Nat} {s : Ab} (h : CI σ t s) : Wv s := h.1
theorem CI_A {σ : zS} {t : Nat} {s : Ab} (h : CI σ t s) : LA σ := h.2.1
theorem CI_T {σ : zS} {t : Nat} {s : Ab} (h : CI σ t s) : CT σ t (xT s) := h.2.2.1.1
theorem CI_3 {σ : zS} {t : Nat} {s : Ab} (h : CI σ t s) : gR σ 16 3 = t := h.2.2.1.2.1
theorem CI_4 {σ : zS} {t : Nat} {s : Ab} (h : CI σ t s) : gR σ 16 4 = 50 - t := h.2.2.1.2.2
theorem CI_S {σ : zS} {t : Nat} {s : Ab} (h : CI σ t s) : CS σ t (xT s) := h.2.2.2.1
theorem CI_l {σ : zS} {t : Nat} {s : Ab} (h : CI σ t s) : CLf σ t (xT s) := h.2.2.2.2.1
theorem CI_H {σ : zS} {t : Nat} {s : Ab} (h : CI σ t s) : CH σ t (xH s) := h.2.2.2.2.2.1
theorem CI_n {σ : zS} {t : Nat} {s : Ab} (h : CI σ t s) : gI σ 48 0 = Int32.ofInt (xn s) := h.2.2.2.2.2.2.1.1
theorem CI_L {σ : zS} {t : Nat} {s : Ab} (h : CI σ t s) : CL σ (xH s) (xn s) := h.2.2.2.2.2.2.1.2
theorem CI_U {σ : zS} {t : Nat} {s : Ab} (h : CI σ t s) : CU σ (xT s) (xU s) (xm s) := h.2.2.2.2.2.2.2.1
theorem CI_N {σ : zS} {t : Nat} {s : Ab} (h : CI σ t s) : gI σ 16 1 = Int32.ofInt (xN s) := h.2.2.2.2.2.2.2.2.1.1
theorem CI_F {σ : zS} {t : Nat} {s : Ab} (h : CI σ t s) : ∀ j, j < xN s → gA σ 17 j = Int32.ofInt (xF s j) := h.2.2.2.2.2.2.2.2.1.2.1
theorem CI_P {σ : zS} {t : Nat} {s : Ab} (h : CI σ t s) : gI σ 16 2 = Int32.ofInt (xP s) := h.2.2.2.2.2.2.2.2.1.2.2
theorem CI_M {σ : zS} {t : Nat} {s : Ab} (h : CI σ t s) : CM σ s := h.2.2.2.2.2.2.2.2.2.1
theorem CI_p {σ : zS} {t : Nat} {s : Ab} (h : CI σ t s) : ∃ p b, PS σ p b := h.2.2.2.2.2.2.2.2.2.2.1
theorem CI_q {σ : zS} {t : Nat} {s : Ab} (h : CI σ t s) : ∃ q : Nat, q < 16 ∧ gI σ 59 6 = Int32.ofInt q := h.2.2.2.2.2.2.2.2.2.2.2.1
theorem CI_g {σ : zS} {t : Nat} {s : Ab} (h : CI σ t s) : 1283 ≤ gT σ := h.2.2.2.2.2.2.2.2.2.2.2.2
theorem CI_w {σ : zS} {t : Nat} {s : Ab} (h : CI σ t s) : wf (xT s) := h.1.2.2.2.1
theorem CI_t {σ : zS} {t : Nat} {s : Ab} (h : CI σ t s) : t = 18 ∨ t = 32 := CT_t (CI_T h)
/-- what a question may change: rules, routes, choices, post, traffic, the weighing -/
def fQ (σ τ : zS) : Prop := gT σ ≤ gT τ ∧ (∀ a, a < 1283 → a < 53 ∨ 84 ≤ a → sm σ τ a) ∧ ∀ T U m, CU σ T U m → CU τ T U m
theorem fQ_refl {σ : zS} : fQ σ σ := ⟨Nat.le_refl _, fun _ _ _ => sm_refl, fun _ _ _ h => h⟩
theorem fQ_trans {σ τ ρ : zS} (h : fQ σ τ) (g : fQ τ ρ) : fQ σ ρ := ⟨Nat.le_trans h.1 g.1, fun a h1 h2 => sm_trans (h.2.1 a h1 h2) (g.2.1 a h1 h2), fun T U m k => g.2.2 T U m (h.2.2 T U m k)⟩
theorem fQ_z {lo hi : Nat} {σ τ : zS} (h : fz lo hi σ τ) (h1 : 53 ≤ lo ∧ (hi ≤ 79 ∨ (81 ≤ lo ∧ hi ≤ 84))) : fQ σ τ := ⟨by rw [h.2.2.2.1]; exact Nat.le_refl _, fun a _ k => fz_sm h (by omega), fun T U m k => CU_fz h (by omega) k⟩
theorem fQ_fw {σ τ : zS} (h : fQ σ τ) : fw 16 88 σ τ := ⟨h.1, fun a k1 k2 => h.2.1 a k1 (by omega)⟩
theorem CI_fQ {σ τ : zS} {t : Nat} {s : Ab} (f : fQ σ τ) (h : CI σ t s) (hA : LA τ) (hp : ∃ p b, PS τ p b) (hq : ∃ q : Nat, q < 16 ∧ gI τ 59 6 = Int32.ofInt q) : CI τ t s := by
  have ht := CI_t h
  have e : ∀ a, a < 53 ∨ (84 ≤ a ∧ a < 1283) → sm σ τ a := fun a ha => f.2.1 a (by omega) (by omega)
  have eI : ∀ a, a < 53 ∨ (84 ≤ a ∧ a < 1283) → gI τ a = gI σ a := fun a ha => (e a ha).2.2.1
  have eA : ∀ a, a < 53 ∨ (84 ≤ a ∧ a < 1283) → gA τ a = gA σ a := fun a ha => (e a ha).2.2.2.2.2.1
  have eB : ∀ a, a < 53 ∨ (84 ≤ a ∧ a < 1283) → gB τ a = gB σ a := fun a ha => (e a ha).2.2.2.2.2.2
  have eR : ∀ a, a < 53 ∨ (84 ≤ a ∧ a < 1283) → gR τ a = gR σ a := fun a ha => (e a ha).2.2.2.2.1
  refine ⟨CI_v h, hA, ⟨CT_sm (CI_T h) (fun k hk => e _ (by omega)), ?_, ?_⟩, CS_sm (CI_S h) (fun k hk => e _ (by omega)), ?_, ?_, ⟨?_, ?_⟩, ?_, ⟨?_, ?_, ?_⟩, ?_, hp, hq, ?_⟩
  · rw [eR 16 (by omega)]
    exact CI_3 h
  · rw [eR 16 (by omega)]
    exact CI_4 h
  · have := CI_l h
    unfold CLf at this ⊢
    rw [eI t (by omega), eA (t + 13) (by omega)]
    exact this
  · have := CI_H h
    unfold CH at this ⊢
    rw [eB (t + 6) (by omega), eB (t + 7) (by omega)]
    exact this
  · rw [eI 48 (by omega)]
    exact CI_n h
  · have := CI_L h
    unfold CL at this ⊢
    rw [eA 49 (by omega), eA 50 (by omega), eA 51 (by omega)]
    exact this
  · exact f.2.2 _ _ _ (CI_U h)
  · rw [eI 16 (by omega)]
    exact CI_N h
  · rw [eA 17 (by omega)]
    exact CI_F h
  · rw [eI 16 (by omega)]
    exact CI_P h
  · have := CI_M h
    unfold CM at this ⊢
    rw [eI 84 (by omega), eA 85 (by omega), eA 86 (by omega), eA 87 (by omega)]
    exact this
  · have := CI_g h
    have := f.1
    omega
theorem PS_nX {σ : zS} {p b : Nat} (h : PS σ p b) : PS (nX σ) p b := by
  have hr := PS_r h
  have eD : ∀ a, a < gT σ → gD (nX σ) a = gD σ a := fun a ha => if_neg (by omega)
  refine ⟨?_, (show gR σ 63 0 = p from PS_p h), ?_, (show gR σ 63 1 = b from PS_b h), ?_, hr.1, hr.2.1, ?_, ?_, ?_, hr.2.2.2.2.2.1, hr.2.2.2.2.2.2⟩
  · have hl := PS_L h
    unfold LPost at hl ⊢
    simp (disch := omega) only [eD]
    exact hl
  · rw [eD p (by omega)]
    exact PS_dp h
  · rw [eD b (by omega)]
    exact PS_db h
  · show p < gT σ + 1
    omega
  · show b < gT σ + 1
    omega
  · show 1283 ≤ gT σ + 1
    omega
theorem LA_nX {σ : zS} (hg : 1283 ≤ gT σ) (h : LA σ) : LA (nX σ) := by
  have eD : ∀ a, a < 1283 → gD (nX σ) a = gD σ a := fun a ha => if_neg (by omega)
  obtain ⟨g1, g2, g3, g4, g5, g6, g7, g8, g9, g10, g11⟩ := h
  refine ⟨?_, ?_, ?_, ?_, ?_, ?_, ?_, ?_, ?_, ?_, ?_⟩
  · unfold LMain at g1 ⊢
    simp (disch := omega) only [eD]
    exact g1
  · unfold LTown at g2 ⊢
    simp (disch := omega) only [eD]
    exact g2
  · unfold LTown at g3 ⊢
    simp (disch := omega) only [eD]
    exact g3
  · unfold LChanges at g4 ⊢
    simp (disch := omega) only [eD]
    exact g4
  · unfold LRules at g5 ⊢
    simp (disch := omega) only [eD]
    exact g5
  · unfold LRoutes at g6 ⊢
    simp (disch := omega) only [eD]
    exact g6
  · unfold LChoices at g7 ⊢
    simp (disch := omega) only [eD]
    exact g7
  · unfold LPost at g8 ⊢
    simp (disch := omega) only [eD]
    exact g8
  · unfold LTraffic at g9 ⊢
    simp (disch := omega) only [eD]
    exact g9
  · unfold LStory at g10 ⊢
    simp (disch := omega) only [eD]
    exact g10
  · unfold LImages at g11 ⊢
    simp (disch := omega) only [eD]
    exact g11
theorem CI_nX {σ : zS} {t : Nat} {s : Ab} (h : CI σ t s) : CI (nX σ) t s := by
  have hg := CI_g h
  obtain ⟨p, b, hp⟩ := CI_p h
  refine CI_fQ ⟨Nat.le_succ _, fun a h1 _ => sm_nX (by omega), fun _ _ _ k => k⟩ h (LA_nX hg (CI_A h)) ⟨p, b, PS_nX hp⟩ (by obtain ⟨q, q1, q2⟩ := CI_q h; exact ⟨q, q1, q2⟩)
theorem fQ_nX {σ : zS} (hg : 1283 ≤ gT σ) : fQ σ (nX σ) := ⟨Nat.le_succ _, fun a h1 _ => sm_nX (by omega), fun _ _ _ k => k⟩
/-! the needs, as equations -/
theorem e_nT {σ : zS} {t : Nat} {s : Ab} {w : Int} {Q : zQ} (h : CI σ t s) (hw : -2147483648 ≤ w ∧ w < 2147483648) : zW zP 21 [.ref 16, .int (Int32.ofInt w)] (hOf σ) Q = if 0 ≤ w ∧ w ≤ (xn s : Int) then Q (.inl none) (hOf σ) else Q (.inr (zex 0)) (hOf (nX σ)) := by
  have hn := (CI_v h).2.2.2.2.1
  have lM := LA_Main (CI_A h)
  rw [zWE]
  simp -implicitDefEqProofs only [zx_iconst, zx_bipush, zx_sipush, zx_lconst, zx_ldc, zx_ldcS, zx_ldc_w, zx_ldc2_w, zx_iload, zx_lload, zx_aload, zx_istore_n, zx_istore, zx_lstore_n, zx_lstore, zx_astore_n, zx_astore, zx_iinc, zx_iadd, zx_isub, zx_imul, zx_iand, zx_ior, zx_ixor, zx_ishl, zx_ishr, zx_iushr, zx_idiv, zx_irem, zx_ineg, zx_ladd, zx_lsub, zx_land, zx_lor, zx_lxor, zx_lneg, zx_lshl, zx_lushr, zx_i2l, zx_l2i, zx_lcmp, zx_dup, zx_dup2, zx_pop, zx_goto, zx_if_eq, zx_if_ne, zx_if_lt, zx_if_ge, zx_if_gt, zx_if_le, zx_icmp_eq, zx_icmp_ne, zx_icmp_lt, zx_icmp_ge, zx_icmp_gt, zx_icmp_le, zx_getfield, zx_putfield, zx_iaload, zx_laload, zx_aaload, zx_iastore, zx_lastore, zx_arraylength, zx_ireturn, zx_lreturn, zx_areturn, zx_return, zx_athrow, zx_static0, zx_static1, zx_virt1, zx_static2, zx_virt2, zx_static3, zx_virt3, zx_static4, zx_virt4, zx_static5, zx_virt5, zx_static6, zx_virt6, zx_static7, zx_virt7, zx_cpI, zx_cpL, ↓cpI, ↓cpL, zx_slen, zx_schr, zx_tsw, zx_spec3, new_X, zx_new1, zrun_nil, zrun_cons, ↓zgi_h, ↓zgi_n, ↓zgl_h, ↓zgl_n, ↓zgr_h, ↓zgr_n, zset1, zset2, zins_nil, zins_c, f3, cat_i, cat_l, cat_r, List.filter_cons, List.filter_nil, Bool.false_eq_true, l_of0, lv_args, Nat.reduceBEq, Nat.reduceAdd, Nat.reduceLeDiff, Nat.reduceLT, Bool.not_true, Bool.not_false, Bool.and_true, Bool.true_and, Bool.and_false, Bool.false_and, Nat.reduceEqDiff, reduceIte, List.contains_cons, List.contains_nil, Bool.or_false, Bool.or_true, Bool.false_or, Bool.true_or, Fin.isValue, Fin.val_zero, Fin.val_one, Fin.val_two, Fin.reduceFinMk, Option.toList_some, Option.toList_none, List.nil_append, List.cons_append, zwt_nil, zwt_i, zwt_l, zwt_r, zthr_nil, List.isEmpty_nil, zcE, ↓ar_k, lgc0, true_and, and_true, true_implies, implies_true, false_implies, forall_const, i_len, ob_0, ob_1, ↓bI_01, bI_0, not_true_eq_false, not_false_eq_true, Bool.not_eq_false, Bool.not_eq_true, ia_add, ia_sub, ia_mul, ia_neg, ↓ldI, ↓ldL, zaI_c, zaL_c, ↓zlen_I, ↓zlen_L, ↓stI, ↓stL, gD_sI, gN_sI, gI_sI, gJ_sI, gR_sI, gA_sI, gB_sI, gT_sI, gD_sJ, gN_sJ, gI_sJ, gJ_sJ, gR_sJ, gA_sJ, gB_sJ, gT_sJ, gD_sR, gN_sR, gI_sR, gJ_sR, gR_sR, gA_sR, gB_sR, gT_sR, gD_sA, gN_sA, gI_sA, gJ_sA, gR_sA, gA_sA, gB_sA, gT_sA, gD_sB, gN_sB, gI_sB, gJ_sB, gR_sB, gA_sB, gB_sB, gT_sB, zx_il0, zx_il1, zx_il2, zx_il3, zx_ll0, zx_ll1, zx_ll2, zx_ll3, zx_al0, zx_al1, zx_al2, zx_al3, e_has, e_bA, e_mn, e_mx, e_pcI, e_pcL, e_low, zml_21, zg21_0, zb21_0, zg21_15, zb21_15, zg21_26, zb21_26, zmc_21, zms_21, zow_21, zhd_21, ↓gf_0_0, ↓gf_10_6, show ztg 1 14 = 15 from rfl, show ztg 12 14 = 26 from rfl, LMain_d lM, LMain_d17 lM, LMain_n17 lM, LMain_d46 lM, LMain_r0 lM, LMain_r5 lM, LMain_r6 lM, LMain_r7 lM, LMain_r8 lM, LMain_r9 lM, LMain_r10 lM, LMain_r11 lM, LMain_r12 lM, LMain_r13 lM, LChanges_d (LA_Changes (CI_A h)), LChanges_r1 (LA_Changes (CI_A h)), LChanges_k1 (LA_Changes (CI_A h)), LChanges_n1 (LA_Changes (CI_A h)), LChanges_r2 (LA_Changes (CI_A h)), LChanges_k2 (LA_Changes (CI_A h)), LChanges_n2 (LA_Changes (CI_A h)), LChanges_r3 (LA_Changes (CI_A h)), LChanges_k3 (LA_Changes (CI_A h)), LChanges_n3 (LA_Changes (CI_A h)), CI_n h]
  try simp (disch := omega) only [ii_lt, ii_le, ii_eq, ii_eq0, ii_lt0, ii_0lt, ii_le0, ii_0le, i_inT, i_natN, i_nat, ia_div, ia_rem, hs_ofI, i_1shl, i_or, i_bit, true_and, and_true, not_true_eq_false, not_false_eq_true, true_implies, false_implies, implies_true, Int.reduceLT, Int.reduceLE, Int.reduceEq, Int.reduceNeg, Int.toNat_natCast, Int.reduceToNat, Nat.reduceLeDiff, Nat.reduceAdd, tn_2, tn_2p, tn_48, tn_48r, tn_3, tn_3p, tn_3q, tn_p1, tn_d2, tn_12, ia_add, ia_sub, ia_mul]
  by_cases c : 0 ≤ w ∧ w ≤ (xn s : Int)
  · rw [if_pos c]
    apply propext
    exact ⟨fun z => (z.2 (by omega)).1 (by omega), fun z => ⟨fun q => by omega, fun _ => ⟨fun _ => z, fun q => by omega⟩⟩⟩
  · rw [if_neg c]
    apply propext
    constructor
    · intro z
      by_cases c2 : w < 0
      · exact z.1 c2
      · exact (z.2 c2).2 (by omega)
    · intro z
      exact ⟨fun _ => z, fun c2 => ⟨fun c3 => by omega, fun _ => z⟩⟩
theorem e_nS {σ : zS} {t : Nat} {s : Ab} {w : Int} {Q : zQ} (h : CI σ t s) (hw : -2147483648 ≤ w ∧ w < 2147483648) : zW zP 29 [.ref 16, .int (Int32.ofInt w)] (hOf σ) Q = if 0 ≤ w ∧ w < (nS (xT s) : Int) then Q (.inl none) (hOf σ) else Q (.inr (zex 1)) (hOf (nX σ)) := by
  have h24 := (CI_w h).2.1
  have lM := LA_Main (CI_A h)
  rw [zWE]
  simp -implicitDefEqProofs only [zx_iconst, zx_bipush, zx_sipush, zx_lconst, zx_ldc, zx_ldcS, zx_ldc_w, zx_ldc2_w, zx_iload, zx_lload, zx_aload, zx_istore_n, zx_istore, zx_lstore_n, zx_lstore, zx_astore_n, zx_astore, zx_iinc, zx_iadd, zx_isub, zx_imul, zx_iand, zx_ior, zx_ixor, zx_ishl, zx_ishr, zx_iushr, zx_idiv, zx_irem, zx_ineg, zx_ladd, zx_lsub, zx_land, zx_lor, zx_lxor, zx_lneg, zx_lshl, zx_lushr, zx_i2l, zx_l2i, zx_lcmp, zx_dup, zx_dup2, zx_pop, zx_goto, zx_if_eq, zx_if_ne, zx_if_lt, zx_if_ge, zx_if_gt, zx_if_le, zx_icmp_eq, zx_icmp_ne, zx_icmp_lt, zx_icmp_ge, zx_icmp_gt, zx_icmp_le, zx_getfield, zx_putfield, zx_iaload, zx_laload, zx_aaload, zx_iastore, zx_lastore, zx_arraylength, zx_ireturn, zx_lreturn, zx_areturn, zx_return, zx_athrow, zx_static0, zx_static1, zx_virt1, zx_static2, zx_virt2, zx_static3, zx_virt3, zx_static4, zx_virt4, zx_static5, zx_virt5, zx_static6, zx_virt6, zx_static7, zx_virt7, zx_cpI, zx_cpL, ↓cpI, ↓cpL, zx_slen, zx_schr, zx_tsw, zx_spec3, new_X, zx_new1, zrun_nil, zrun_cons, ↓zgi_h, ↓zgi_n, ↓zgl_h, ↓zgl_n, ↓zgr_h, ↓zgr_n, zset1, zset2, zins_nil, zins_c, f3, cat_i, cat_l, cat_r, List.filter_cons, List.filter_nil, Bool.false_eq_true, l_of0, lv_args, Nat.reduceBEq, Nat.reduceAdd, Nat.reduceLeDiff, Nat.reduceLT, Bool.not_true, Bool.not_false, Bool.and_true, Bool.true_and, Bool.and_false, Bool.false_and, Nat.reduceEqDiff, reduceIte, List.contains_cons, List.contains_nil, Bool.or_false, Bool.or_true, Bool.false_or, Bool.true_or, Fin.isValue, Fin.val_zero, Fin.val_one, Fin.val_two, Fin.reduceFinMk, Option.toList_some, Option.toList_none, List.nil_append, List.cons_append, zwt_nil, zwt_i, zwt_l, zwt_r, zthr_nil, List.isEmpty_nil, zcE, ↓ar_k, lgc0, true_and, and_true, true_implies, implies_true, false_implies, forall_const, i_len, ob_0, ob_1, ↓bI_01, bI_0, not_true_eq_false, not_false_eq_true, Bool.not_eq_false, Bool.not_eq_true, ia_add, ia_sub, ia_mul, ia_neg, ↓ldI, ↓ldL, zaI_c, zaL_c, ↓zlen_I, ↓zlen_L, ↓stI, ↓stL, gD_sI, gN_sI, gI_sI, gJ_sI, gR_sI, gA_sI, gB_sI, gT_sI, gD_sJ, gN_sJ, gI_sJ, gJ_sJ, gR_sJ, gA_sJ, gB_sJ, gT_sJ, gD_sR, gN_sR, gI_sR, gJ_sR, gR_sR, gA_sR, gB_sR, gT_sR, gD_sA, gN_sA, gI_sA, gJ_sA, gR_sA, gA_sA, gB_sA, gT_sA, gD_sB, gN_sB, gI_sB, gJ_sB, gR_sB, gA_sB, gB_sB, gT_sB, zx_il0, zx_il1, zx_il2, zx_il3, zx_ll0, zx_ll1, zx_ll2, zx_ll3, zx_al0, zx_al1, zx_al2, zx_al3, e_has, e_bA, e_mn, e_mx, e_pcI, e_pcL, e_low, zml_29, zg29_0, zb29_0, zg29_15, zb29_15, zg29_26, zb29_26, zmc_29, zms_29, zow_29, zhd_29, ↓gf_10_3, ↓gf_8_1, show ztg 1 14 = 15 from rfl, show ztg 12 14 = 26 from rfl, LMain_d lM, LMain_d17 lM, LMain_n17 lM, LMain_d46 lM, LMain_r0 lM, LMain_r5 lM, LMain_r6 lM, LMain_r7 lM, LMain_r8 lM, LMain_r9 lM, LMain_r10 lM, LMain_r11 lM, LMain_r12 lM, LMain_r13 lM, LTown_g (CT_L (CI_T h)), LTown_d (CT_L (CI_T h)), LTown_r6 (CT_L (CI_T h)), LTown_k6 (CT_L (CI_T h)), LTown_n6 (CT_L (CI_T h)), LTown_r7 (CT_L (CI_T h)), LTown_k7 (CT_L (CI_T h)), LTown_n7 (CT_L (CI_T h)), LTown_r8 (CT_L (CI_T h)), LTown_k8 (CT_L (CI_T h)), LTown_n8 (CT_L (CI_T h)), LTown_r9 (CT_L (CI_T h)), LTown_k9 (CT_L (CI_T h)), LTown_n9 (CT_L (CI_T h)), LTown_r10 (CT_L (CI_T h)), LTown_k10 (CT_L (CI_T h)), LTown_n10 (CT_L (CI_T h)), LTown_r11 (CT_L (CI_T h)), LTown_k11 (CT_L (CI_T h)), LTown_n11 (CT_L (CI_T h)), LTown_r12 (CT_L (CI_T h)), LTown_k12 (CT_L (CI_T h)), LTown_n12 (CT_L (CI_T h)), LTown_r13 (CT_L (CI_T h)), LTown_k13 (CT_L (CI_T h)), LTown_n13 (CT_L (CI_T h)), LTown_r14 (CT_L (CI_T h)), LTown_k14 (CT_L (CI_T h)), LTown_n14 (CT_L (CI_T h)), LTown_r15 (CT_L (CI_T h)), LTown_k15 (CT_L (CI_T h)), LTown_n15 (CT_L (CI_T h)), LTown_r16 (CT_L (CI_T h)), LTown_k16 (CT_L (CI_T h)), LTown_n16 (CT_L (CI_T h)), LTown_r17 (CT_L (CI_T h)), LTown_k17 (CT_L (CI_T h)), LTown_n17 (CT_L (CI_T h)), LTown_r18 (CT_L (CI_T h)), LTown_k18 (CT_L (CI_T h)), LTown_n18 (CT_L (CI_T h)), CI_3 h, CT_1 (CI_T h)]
  try simp (disch := omega) only [ii_lt, ii_le, ii_eq, ii_eq0, ii_lt0, ii_0lt, ii_le0, ii_0le, i_inT, i_natN, i_nat, ia_div, ia_rem, hs_ofI, i_1shl, i_or, i_bit, true_and, and_true, not_true_eq_false, not_false_eq_true, true_implies, false_implies, implies_true, Int.reduceLT, Int.reduceLE, Int.reduceEq, Int.reduceNeg, Int.toNat_natCast, Int.reduceToNat, Nat.reduceLeDiff, Nat.reduceAdd, tn_2, tn_2p, tn_48, tn_48r, tn_3, tn_3p, tn_3q, tn_p1, tn_d2, tn_12, ia_add, ia_sub, ia_mul]
  by_cases c : 0 ≤ w ∧ w < (nS (xT s) : Int)
  · rw [if_pos c]
    apply propext
    exact ⟨fun z => (z.2 (by omega)).1 (by omega), fun z => ⟨fun q => by omega, fun _ => ⟨fun _ => z, fun q => by omega⟩⟩⟩
  · rw [if_neg c]
    apply propext
    constructor
    · intro z
      by_cases c2 : w < 0
      · exact z.1 c2
      · exact (z.2 c2).2 (by omega)
    · intro z
      exact ⟨fun _ => z, fun c2 => ⟨fun c3 => by omega, fun _ => z⟩⟩
theorem e_nC {σ : zS} {t : Nat} {s : Ab} {w : Int} {Q : zQ} (h : CI σ t s) (hw : -2147483648 ≤ w ∧ w < 2147483648) : zW zP 53 [.ref 16, .int (Int32.ofInt w)] (hOf σ) Q = if 0 ≤ w ∧ w < (nC (xT s) : Int) then Q (.inl none) (hOf σ) else Q (.inr (zex 2)) (hOf (nX σ)) := by
  have h16 := (CI_w h).1
  have lM := LA_Main (CI_A h)
  rw [zWE]
  simp -implicitDefEqProofs only [zx_iconst, zx_bipush, zx_sipush, zx_lconst, zx_ldc, zx_ldcS, zx_ldc_w, zx_ldc2_w, zx_iload, zx_lload, zx_aload, zx_istore_n, zx_istore, zx_lstore_n, zx_lstore, zx_astore_n, zx_astore, zx_iinc, zx_iadd, zx_isub, zx_imul, zx_iand, zx_ior, zx_ixor, zx_ishl, zx_ishr, zx_iushr, zx_idiv, zx_irem, zx_ineg, zx_ladd, zx_lsub, zx_land, zx_lor, zx_lxor, zx_lneg, zx_lshl, zx_lushr, zx_i2l, zx_l2i, zx_lcmp, zx_dup, zx_dup2, zx_pop, zx_goto, zx_if_eq, zx_if_ne, zx_if_lt, zx_if_ge, zx_if_gt, zx_if_le, zx_icmp_eq, zx_icmp_ne, zx_icmp_lt, zx_icmp_ge, zx_icmp_gt, zx_icmp_le, zx_getfield, zx_putfield, zx_iaload, zx_laload, zx_aaload, zx_iastore, zx_lastore, zx_arraylength, zx_ireturn, zx_lreturn, zx_areturn, zx_return, zx_athrow, zx_static0, zx_static1, zx_virt1, zx_static2, zx_virt2, zx_static3, zx_virt3, zx_static4, zx_virt4, zx_static5, zx_virt5, zx_static6, zx_virt6, zx_static7, zx_virt7, zx_cpI, zx_cpL, ↓cpI, ↓cpL, zx_slen, zx_schr, zx_tsw, zx_spec3, new_X, zx_new1, zrun_nil, zrun_cons, ↓zgi_h, ↓zgi_n, ↓zgl_h, ↓zgl_n, ↓zgr_h, ↓zgr_n, zset1, zset2, zins_nil, zins_c, f3, cat_i, cat_l, cat_r, List.filter_cons, List.filter_nil, Bool.false_eq_true, l_of0, lv_args, Nat.reduceBEq, Nat.reduceAdd, Nat.reduceLeDiff, Nat.reduceLT, Bool.not_true, Bool.not_false, Bool.and_true, Bool.true_and, Bool.and_false, Bool.false_and, Nat.reduceEqDiff, reduceIte, List.contains_cons, List.contains_nil, Bool.or_false, Bool.or_true, Bool.false_or, Bool.true_or, Fin.isValue, Fin.val_zero, Fin.val_one, Fin.val_two, Fin.reduceFinMk, Option.toList_some, Option.toList_none, List.nil_append, List.cons_append, zwt_nil, zwt_i, zwt_l, zwt_r, zthr_nil, List.isEmpty_nil, zcE, ↓ar_k, lgc0, true_and, and_true, true_implies, implies_true, false_implies, forall_const, i_len, ob_0, ob_1, ↓bI_01, bI_0, not_true_eq_false, not_false_eq_true, Bool.not_eq_false, Bool.not_eq_true, ia_add, ia_sub, ia_mul, ia_neg, ↓ldI, ↓ldL, zaI_c, zaL_c, ↓zlen_I, ↓zlen_L, ↓stI, ↓stL, gD_sI, gN_sI, gI_sI, gJ_sI, gR_sI, gA_sI, gB_sI, gT_sI, gD_sJ, gN_sJ, gI_sJ, gJ_sJ, gR_sJ, gA_sJ, gB_sJ, gT_sJ, gD_sR, gN_sR, gI_sR, gJ_sR, gR_sR, gA_sR, gB_sR, gT_sR, gD_sA, gN_sA, gI_sA, gJ_sA, gR_sA, gA_sA, gB_sA, gT_sA, gD_sB, gN_sB, gI_sB, gJ_sB, gR_sB, gA_sB, gB_sB, gT_sB, zx_il0, zx_il1, zx_il2, zx_il3, zx_ll0, zx_ll1, zx_ll2, zx_ll3, zx_al0, zx_al1, zx_al2, zx_al3, e_has, e_bA, e_mn, e_mx, e_pcI, e_pcL, e_low, zml_53, zg53_0, zb53_0, zg53_15, zb53_15, zg53_26, zb53_26, zmc_53, zms_53, zow_53, zhd_53, ↓gf_10_3, ↓gf_8_0, show ztg 1 14 = 15 from rfl, show ztg 12 14 = 26 from rfl, LMain_d lM, LMain_d17 lM, LMain_n17 lM, LMain_d46 lM, LMain_r0 lM, LMain_r5 lM, LMain_r6 lM, LMain_r7 lM, LMain_r8 lM, LMain_r9 lM, LMain_r10 lM, LMain_r11 lM, LMain_r12 lM, LMain_r13 lM, LTown_g (CT_L (CI_T h)), LTown_d (CT_L (CI_T h)), LTown_r6 (CT_L (CI_T h)), LTown_k6 (CT_L (CI_T h)), LTown_n6 (CT_L (CI_T h)), LTown_r7 (CT_L (CI_T h)), LTown_k7 (CT_L (CI_T h)), LTown_n7 (CT_L (CI_T h)), LTown_r8 (CT_L (CI_T h)), LTown_k8 (CT_L (CI_T h)), LTown_n8 (CT_L (CI_T h)), LTown_r9 (CT_L (CI_T h)), LTown_k9 (CT_L (CI_T h)), LTown_n9 (CT_L (CI_T h)), LTown_r10 (CT_L (CI_T h)), LTown_k10 (CT_L (CI_T h)), LTown_n10 (CT_L (CI_T h)), LTown_r11 (CT_L (CI_T h)), LTown_k11 (CT_L (CI_T h)), LTown_n11 (CT_L (CI_T h)), LTown_r12 (CT_L (CI_T h)), LTown_k12 (CT_L (CI_T h)), LTown_n12 (CT_L (CI_T h)), LTown_r13 (CT_L (CI_T h)), LTown_k13 (CT_L (CI_T h)), LTown_n13 (CT_L (CI_T h)), LTown_r14 (CT_L (CI_T h)), LTown_k14 (CT_L (CI_T h)), LTown_n14 (CT_L (CI_T h)), LTown_r15 (CT_L (CI_T h)), LTown_k15 (CT_L (CI_T h)), LTown_n15 (CT_L (CI_T h)), LTown_r16 (CT_L (CI_T h)), LTown_k16 (CT_L (CI_T h)), LTown_n16 (CT_L (CI_T h)), LTown_r17 (CT_L (CI_T h)), LTown_k17 (CT_L (CI_T h)), LTown_n17 (CT_L (CI_T h)), LTown_r18 (CT_L (CI_T h)), LTown_k18 (CT_L (CI_T h)), LTown_n18 (CT_L (CI_T h)), CI_3 h, CT_0 (CI_T h)]
  try simp (disch := omega) only [ii_lt, ii_le, ii_eq, ii_eq0, ii_lt0, ii_0lt, ii_le0, ii_0le, i_inT, i_natN, i_nat, ia_div, ia_rem, hs_ofI, i_1shl, i_or, i_bit, true_and, and_true, not_true_eq_false, not_false_eq_true, true_implies, false_implies, implies_true, Int.reduceLT, Int.reduceLE, Int.reduceEq, Int.reduceNeg, Int.toNat_natCast, Int.reduceToNat, Nat.reduceLeDiff, Nat.reduceAdd, tn_2, tn_2p, tn_48, tn_48r, tn_3, tn_3p, tn_3q, tn_p1, tn_d2, tn_12, ia_add, ia_sub, ia_mul]
  by_cases c : 0 ≤ w ∧ w < (nC (xT s) : Int)
  · rw [if_pos c]
    apply propext
    exact ⟨fun z => (z.2 (by omega)).1 (by omega), fun z => ⟨fun q => by omega, fun _ => ⟨fun _ => z, fun q => by omega⟩⟩⟩
  · rw [if_neg c]
    apply propext
    constructor
    · intro z
      by_cases c2 : w < 0
      · exact z.1 c2
      · exact (z.2 c2).2 (by omega)
    · intro z
      exact ⟨fun _ => z, fun c2 => ⟨fun c3 => by omega, fun _ => z⟩⟩
theorem e_nW {σ : zS} {w l : Int} {Q : zQ} (hw : -2147483648 ≤ w ∧ w < 2147483648) (hl : 0 ≤ l ∧ l < 2147483648) : zW zP 39 [.ref 16, .int (Int32.ofInt w), .int (Int32.ofInt l)] (hOf σ) Q = if 0 ≤ w ∧ w ≤ l then Q (.inl none) (hOf σ) else Q (.inr (zex 0)) (hOf (nX σ)) := by
  rw [zWE]
  simp -implicitDefEqProofs only [zx_iconst, zx_bipush, zx_sipush, zx_lconst, zx_ldc, zx_ldcS, zx_ldc_w, zx_ldc2_w, zx_iload, zx_lload, zx_aload, zx_istore_n, zx_istore, zx_lstore_n, zx_lstore, zx_astore_n, zx_astore, zx_iinc, zx_iadd, zx_isub, zx_imul, zx_iand, zx_ior, zx_ixor, zx_ishl, zx_ishr, zx_iushr, zx_idiv, zx_irem, zx_ineg, zx_ladd, zx_lsub, zx_land, zx_lor, zx_lxor, zx_lneg, zx_lshl, zx_lushr, zx_i2l, zx_l2i, zx_lcmp, zx_dup, zx_dup2, zx_pop, zx_goto, zx_if_eq, zx_if_ne, zx_if_lt, zx_if_ge, zx_if_gt, zx_if_le, zx_icmp_eq, zx_icmp_ne, zx_icmp_lt, zx_icmp_ge, zx_icmp_gt, zx_icmp_le, zx_getfield, zx_putfield, zx_iaload, zx_laload, zx_aaload, zx_iastore, zx_lastore, zx_arraylength, zx_ireturn, zx_lreturn, zx_areturn, zx_return, zx_athrow, zx_static0, zx_static1, zx_virt1, zx_static2, zx_virt2, zx_static3, zx_virt3, zx_static4, zx_virt4, zx_static5, zx_virt5, zx_static6, zx_virt6, zx_static7, zx_virt7, zx_cpI, zx_cpL, ↓cpI, ↓cpL, zx_slen, zx_schr, zx_tsw, zx_spec3, new_X, zx_new1, zrun_nil, zrun_cons, ↓zgi_h, ↓zgi_n, ↓zgl_h, ↓zgl_n, ↓zgr_h, ↓zgr_n, zset1, zset2, zins_nil, zins_c, f3, cat_i, cat_l, cat_r, List.filter_cons, List.filter_nil, Bool.false_eq_true, l_of0, lv_args, Nat.reduceBEq, Nat.reduceAdd, Nat.reduceLeDiff, Nat.reduceLT, Bool.not_true, Bool.not_false, Bool.and_true, Bool.true_and, Bool.and_false, Bool.false_and, Nat.reduceEqDiff, reduceIte, List.contains_cons, List.contains_nil, Bool.or_false, Bool.or_true, Bool.false_or, Bool.true_or, Fin.isValue, Fin.val_zero, Fin.val_one, Fin.val_two, Fin.reduceFinMk, Option.toList_some, Option.toList_none, List.nil_append, List.cons_append, zwt_nil, zwt_i, zwt_l, zwt_r, zthr_nil, List.isEmpty_nil, zcE, ↓ar_k, lgc0, true_and, and_true, true_implies, implies_true, false_implies, forall_const, i_len, ob_0, ob_1, ↓bI_01, bI_0, not_true_eq_false, not_false_eq_true, Bool.not_eq_false, Bool.not_eq_true, ia_add, ia_sub, ia_mul, ia_neg, ↓ldI, ↓ldL, zaI_c, zaL_c, ↓zlen_I, ↓zlen_L, ↓stI, ↓stL, gD_sI, gN_sI, gI_sI, gJ_sI, gR_sI, gA_sI, gB_sI, gT_sI, gD_sJ, gN_sJ, gI_sJ, gJ_sJ, gR_sJ, gA_sJ, gB_sJ, gT_sJ, gD_sR, gN_sR, gI_sR, gJ_sR, gR_sR, gA_sR, gB_sR, gT_sR, gD_sA, gN_sA, gI_sA, gJ_sA, gR_sA, gA_sA, gB_sA, gT_sA, gD_sB, gN_sB, gI_sB, gJ_sB, gR_sB, gA_sB, gB_sB, gT_sB, zx_il0, zx_il1, zx_il2, zx_il3, zx_ll0, zx_ll1, zx_ll2, zx_ll3, zx_al0, zx_al1, zx_al2, zx_al3, e_has, e_bA, e_mn, e_mx, e_pcI, e_pcL, e_low, zml_39, zg39_0, zb39_0, zg39_9, zb39_9, zg39_19, zb39_19, zmc_39, zms_39, zow_39, zhd_39, show ztg 1 8 = 9 from rfl, show ztg 6 13 = 19 from rfl]
  try simp (disch := omega) only [ii_lt, ii_le, ii_eq, ii_eq0, ii_lt0, ii_0lt, ii_le0, ii_0le, i_inT, i_natN, i_nat, ia_div, ia_rem, hs_ofI, i_1shl, i_or, i_bit, true_and, and_true, not_true_eq_false, not_false_eq_true, true_implies, false_implies, implies_true, Int.reduceLT, Int.reduceLE, Int.reduceEq, Int.reduceNeg, Int.toNat_natCast, Int.reduceToNat, Nat.reduceLeDiff, Nat.reduceAdd, tn_2, tn_2p, tn_48, tn_48r, tn_3, tn_3p, tn_3q, tn_p1, tn_d2, tn_12, ia_add, ia_sub, ia_mul]
  by_cases c : 0 ≤ w ∧ w ≤ l
  · rw [if_pos c]
    apply propext
    exact ⟨fun z => (z.2 (by omega)).1 (by omega), fun z => ⟨fun q => by omega, fun _ => ⟨fun _ => z, fun q => by omega⟩⟩⟩
  · rw [if_neg c]
    apply propext
    constructor
    · intro z
      by_cases c2 : w < 0
      · exact z.1 c2
      · exact (z.2 c2).2 (by omega)
    · intro z
      exact ⟨fun _ => z, fun c2 => ⟨fun c3 => by omega, fun _ => z⟩⟩
theorem e_nA {σ : zS} {t : Nat} {s : Ab} {w : Int} {Q : zQ} (h : CI σ t s) (hw : -2147483648 ≤ w ∧ w < 2147483648) : zW zP 120 [.ref 16, .int (Int32.ofInt w)] (hOf σ) Q = if 0 ≤ w ∧ isA (xT s) w.toNat = true then Q (.inl none) (hOf σ) else Q (.inr (zex 1)) (hOf (nX σ)) := by
  have lM := LA_Main (CI_A h)
  rw [zWE]
  simp -implicitDefEqProofs only [zx_iconst, zx_bipush, zx_sipush, zx_lconst, zx_ldc, zx_ldcS, zx_ldc_w, zx_ldc2_w, zx_iload, zx_lload, zx_aload, zx_istore_n, zx_istore, zx_lstore_n, zx_lstore, zx_astore_n, zx_astore, zx_iinc, zx_iadd, zx_isub, zx_imul, zx_iand, zx_ior, zx_ixor, zx_ishl, zx_ishr, zx_iushr, zx_idiv, zx_irem, zx_ineg, zx_ladd, zx_lsub, zx_land, zx_lor, zx_lxor, zx_lneg, zx_lshl, zx_lushr, zx_i2l, zx_l2i, zx_lcmp, zx_dup, zx_dup2, zx_pop, zx_goto, zx_if_eq, zx_if_ne, zx_if_lt, zx_if_ge, zx_if_gt, zx_if_le, zx_icmp_eq, zx_icmp_ne, zx_icmp_lt, zx_icmp_ge, zx_icmp_gt, zx_icmp_le, zx_getfield, zx_putfield, zx_iaload, zx_laload, zx_aaload, zx_iastore, zx_lastore, zx_arraylength, zx_ireturn, zx_lreturn, zx_areturn, zx_return, zx_athrow, zx_static0, zx_static1, zx_virt1, zx_static2, zx_virt2, zx_static3, zx_virt3, zx_static4, zx_virt4, zx_static5, zx_virt5, zx_static6, zx_virt6, zx_static7, zx_virt7, zx_cpI, zx_cpL, ↓cpI, ↓cpL, zx_slen, zx_schr, zx_tsw, zx_spec3, new_X, zx_new1, zrun_nil, zrun_cons, ↓zgi_h, ↓zgi_n, ↓zgl_h, ↓zgl_n, ↓zgr_h, ↓zgr_n, zset1, zset2, zins_nil, zins_c, f3, cat_i, cat_l, cat_r, List.filter_cons, List.filter_nil, Bool.false_eq_true, l_of0, lv_args, Nat.reduceBEq, Nat.reduceAdd, Nat.reduceLeDiff, Nat.reduceLT, Bool.not_true, Bool.not_false, Bool.and_true, Bool.true_and, Bool.and_false, Bool.false_and, Nat.reduceEqDiff, reduceIte, List.contains_cons, List.contains_nil, Bool.or_false, Bool.or_true, Bool.false_or, Bool.true_or, Fin.isValue, Fin.val_zero, Fin.val_one, Fin.val_two, Fin.reduceFinMk, Option.toList_some, Option.toList_none, List.nil_append, List.cons_append, zwt_nil, zwt_i, zwt_l, zwt_r, zthr_nil, List.isEmpty_nil, zcE, ↓ar_k, lgc0, true_and, and_true, true_implies, implies_true, false_implies, forall_const, i_len, ob_0, ob_1, ↓bI_01, bI_0, not_true_eq_false, not_false_eq_true, Bool.not_eq_false, Bool.not_eq_true, ia_add, ia_sub, ia_mul, ia_neg, ↓ldI, ↓ldL, zaI_c, zaL_c, ↓zlen_I, ↓zlen_L, ↓stI, ↓stL, gD_sI, gN_sI, gI_sI, gJ_sI, gR_sI, gA_sI, gB_sI, gT_sI, gD_sJ, gN_sJ, gI_sJ, gJ_sJ, gR_sJ, gA_sJ, gB_sJ, gT_sJ, gD_sR, gN_sR, gI_sR, gJ_sR, gR_sR, gA_sR, gB_sR, gT_sR, gD_sA, gN_sA, gI_sA, gJ_sA, gR_sA, gA_sA, gB_sA, gT_sA, gD_sB, gN_sB, gI_sB, gJ_sB, gR_sB, gA_sB, gB_sB, gT_sB, zx_il0, zx_il1, zx_il2, zx_il3, zx_ll0, zx_ll1, zx_ll2, zx_ll3, zx_al0, zx_al1, zx_al2, zx_al3, e_has, e_bA, e_mn, e_mx, e_pcI, e_pcL, e_low, zml_120, zg120_0, zb120_0, zg120_22, zb120_22, zmc_120, zms_120, zow_120, zhd_120, zmc_119, zms_119, zow_119, zhd_119, ↓gf_10_3, ↓gv_8, show ztg 8 14 = 22 from rfl, LMain_d lM, LMain_d17 lM, LMain_n17 lM, LMain_d46 lM, LMain_r0 lM, LMain_r5 lM, LMain_r6 lM, LMain_r7 lM, LMain_r8 lM, LMain_r9 lM, LMain_r10 lM, LMain_r11 lM, LMain_r12 lM, LMain_r13 lM, LTown_g (CT_L (CI_T h)), LTown_d (CT_L (CI_T h)), LTown_r6 (CT_L (CI_T h)), LTown_k6 (CT_L (CI_T h)), LTown_n6 (CT_L (CI_T h)), LTown_r7 (CT_L (CI_T h)), LTown_k7 (CT_L (CI_T h)), LTown_n7 (CT_L (CI_T h)), LTown_r8 (CT_L (CI_T h)), LTown_k8 (CT_L (CI_T h)), LTown_n8 (CT_L (CI_T h)), LTown_r9 (CT_L (CI_T h)), LTown_k9 (CT_L (CI_T h)), LTown_n9 (CT_L (CI_T h)), LTown_r10 (CT_L (CI_T h)), LTown_k10 (CT_L (CI_T h)), LTown_n10 (CT_L (CI_T h)), LTown_r11 (CT_L (CI_T h)), LTown_k11 (CT_L (CI_T h)), LTown_n11 (CT_L (CI_T h)), LTown_r12 (CT_L (CI_T h)), LTown_k12 (CT_L (CI_T h)), LTown_n12 (CT_L (CI_T h)), LTown_r13 (CT_L (CI_T h)), LTown_k13 (CT_L (CI_T h)), LTown_n13 (CT_L (CI_T h)), LTown_r14 (CT_L (CI_T h)), LTown_k14 (CT_L (CI_T h)), LTown_n14 (CT_L (CI_T h)), LTown_r15 (CT_L (CI_T h)), LTown_k15 (CT_L (CI_T h)), LTown_n15 (CT_L (CI_T h)), LTown_r16 (CT_L (CI_T h)), LTown_k16 (CT_L (CI_T h)), LTown_n16 (CT_L (CI_T h)), LTown_r17 (CT_L (CI_T h)), LTown_k17 (CT_L (CI_T h)), LTown_n17 (CT_L (CI_T h)), LTown_r18 (CT_L (CI_T h)), LTown_k18 (CT_L (CI_T h)), LTown_n18 (CT_L (CI_T h)), CI_3 h, e_isArc (CI_T h) (CI_w h) hw]
  by_cases c : 0 ≤ w ∧ isA (xT s) w.toNat = true
  · rw [if_pos c, decide_eq_true c.1, c.2]
    apply propext
    exact ⟨fun z => z.1 rfl, fun z => ⟨fun _ => z, fun q => (by cases q)⟩⟩
  · rw [if_neg c]
    have e : (decide (0 ≤ w) && isA (xT s) w.toNat) = false := by
      rw [Bool.and_eq_false_iff, decide_eq_false_iff_not]
      by_cases c1 : 0 ≤ w
      · right
        cases e : isA (xT s) w.toNat with
        | false => rfl
        | true => exact absurd ⟨c1, e⟩ c
      · exact .inl c1
    rw [e]
    apply propext
    exact ⟨fun z => z.2 rfl, fun z => ⟨fun q => (by cases q), fun _ => z⟩⟩
theorem u_look {σ : zS} {t : Nat} {s : Ab} {w : Int} {Q : zQ} (h : CI σ t s) (hw : -2147483648 ≤ w ∧ w < 2147483648) (hQ1 : ∀ (m : Nat) τ, w = (m : Int) → m ≤ xn s → fQ σ τ → CI τ t s → QC τ t (xT s) (xH s m) → Q (.inl none) (hOf τ)) (hQ2 : ¬ (0 ≤ w ∧ w ≤ (xn s : Int)) → Q (.inr (zex 0)) (hOf (nX σ))) : zW zP 28 [.ref 16, .int (Int32.ofInt w)] (hOf σ) Q := by
  have ht := CI_t h
  have lM := LA_Main (CI_A h)
  rw [zWE]
  simp -implicitDefEqProofs only [zx_iconst, zx_bipush, zx_sipush, zx_lconst, zx_ldc, zx_ldcS, zx_ldc_w, zx_ldc2_w, zx_iload, zx_lload, zx_aload, zx_istore_n, zx_istore, zx_lstore_n, zx_lstore, zx_astore_n, zx_astore, zx_iinc, zx_iadd, zx_isub, zx_imul, zx_iand, zx_ior, zx_ixor, zx_ishl, zx_ishr, zx_iushr, zx_idiv, zx_irem, zx_ineg, zx_ladd, zx_lsub, zx_land, zx_lor, zx_lxor, zx_lneg, zx_lshl, zx_lushr, zx_i2l, zx_l2i, zx_lcmp, zx_dup, zx_dup2, zx_pop, zx_goto, zx_if_eq, zx_if_ne, zx_if_lt, zx_if_ge, zx_if_gt, zx_if_le, zx_icmp_eq, zx_icmp_ne, zx_icmp_lt, zx_icmp_ge, zx_icmp_gt, zx_icmp_le, zx_getfield, zx_putfield, zx_iaload, zx_laload, zx_aaload, zx_iastore, zx_lastore, zx_arraylength, zx_ireturn, zx_lreturn, zx_areturn, zx_return, zx_athrow, zx_static0, zx_static1, zx_virt1, zx_static2, zx_virt2, zx_static3, zx_virt3, zx_static4, zx_virt4, zx_static5, zx_virt5, zx_static6, zx_virt6, zx_static7, zx_virt7, zx_cpI, zx_cpL, ↓cpI, ↓cpL, zx_slen, zx_schr, zx_tsw, zx_spec3, new_X, zx_new1, zrun_nil, zrun_cons, ↓zgi_h, ↓zgi_n, ↓zgl_h, ↓zgl_n, ↓zgr_h, ↓zgr_n, zset1, zset2, zins_nil, zins_c, f3, cat_i, cat_l, cat_r, List.filter_cons, List.filter_nil, Bool.false_eq_true, l_of0, lv_args, Nat.reduceBEq, Nat.reduceAdd, Nat.reduceLeDiff, Nat.reduceLT, Bool.not_true, Bool.not_false, Bool.and_true, Bool.true_and, Bool.and_false, Bool.false_and, Nat.reduceEqDiff, reduceIte, List.contains_cons, List.contains_nil, Bool.or_false, Bool.or_true, Bool.false_or, Bool.true_or, Fin.isValue, Fin.val_zero, Fin.val_one, Fin.val_two, Fin.reduceFinMk, Option.toList_some, Option.toList_none, List.nil_append, List.cons_append, zwt_nil, zwt_i, zwt_l, zwt_r, zthr_nil, List.isEmpty_nil, zcE, ↓ar_k, lgc0, true_and, and_true, true_implies, implies_true, false_implies, forall_const, i_len, ob_0, ob_1, ↓bI_01, bI_0, not_true_eq_false, not_false_eq_true, Bool.not_eq_false, Bool.not_eq_true, ia_add, ia_sub, ia_mul, ia_neg, ↓ldI, ↓ldL, zaI_c, zaL_c, ↓zlen_I, ↓zlen_L, ↓stI, ↓stL, gD_sI, gN_sI, gI_sI, gJ_sI, gR_sI, gA_sI, gB_sI, gT_sI, gD_sJ, gN_sJ, gI_sJ, gJ_sJ, gR_sJ, gA_sJ, gB_sJ, gT_sJ, gD_sR, gN_sR, gI_sR, gJ_sR, gR_sR, gA_sR, gB_sR, gT_sR, gD_sA, gN_sA, gI_sA, gJ_sA, gR_sA, gA_sA, gB_sA, gT_sA, gD_sB, gN_sB, gI_sB, gJ_sB, gR_sB, gA_sB, gB_sB, gT_sB, zx_il0, zx_il1, zx_il2, zx_il3, zx_ll0, zx_ll1, zx_ll2, zx_ll3, zx_al0, zx_al1, zx_al2, zx_al3, e_has, e_bA, e_mn, e_mx, e_pcI, e_pcL, e_low, zml_28, zg28_0, zb28_0, zmc_27, zms_27, zow_27, zhd_27, zmc_28, zms_28, zow_28, zhd_28, zmc_21, zms_21, zow_21, zhd_21, ↓gf_10_3, ↓gf_10_6, ↓gf_10_7, ↓gv_0, ↓gv_10, LMain_d lM, LMain_d17 lM, LMain_n17 lM, LMain_d46 lM, LMain_r0 lM, LMain_r5 lM, LMain_r6 lM, LMain_r7 lM, LMain_r8 lM, LMain_r9 lM, LMain_r10 lM, LMain_r11 lM, LMain_r12 lM, LMain_r13 lM, e_nT h hw, CI_3 h, LChanges_d (LA_Changes (CI_A h)), LChanges_r1 (LA_Changes (CI_A h)), LChanges_k1 (LA_Changes (CI_A h)), LChanges_n1 (LA_Changes (CI_A h)), LChanges_r2 (LA_Changes (CI_A h)), LChanges_k2 (LA_Changes (CI_A h)), LChanges_n2 (LA_Changes (CI_A h)), LChanges_r3 (LA_Changes (CI_A h)), LChanges_k3 (LA_Changes (CI_A h)), LChanges_n3 (LA_Changes (CI_A h))]
  split
  · rename_i c
    obtain ⟨m, hm⟩ : ∃ m : Nat, w = (m : Int) := ⟨w.toNat, by omega⟩
    subst hm
    refine u_bring (CI_T h) (CI_w h) (CI_S h) (LA_Rules (CI_A h)) (LA_Changes (CI_A h)) (CI_n h) (CI_H h) (CI_L h) (CI_v h).2.2.2.2.1 (by omega) (fun f g x hR hx => ?_)
    simp -implicitDefEqProofs only [zx_iconst, zx_bipush, zx_sipush, zx_lconst, zx_ldc, zx_ldcS, zx_ldc_w, zx_ldc2_w, zx_iload, zx_lload, zx_aload, zx_istore_n, zx_istore, zx_lstore_n, zx_lstore, zx_astore_n, zx_astore, zx_iinc, zx_iadd, zx_isub, zx_imul, zx_iand, zx_ior, zx_ixor, zx_ishl, zx_ishr, zx_iushr, zx_idiv, zx_irem, zx_ineg, zx_ladd, zx_lsub, zx_land, zx_lor, zx_lxor, zx_lneg, zx_lshl, zx_lushr, zx_i2l, zx_l2i, zx_lcmp, zx_dup, zx_dup2, zx_pop, zx_goto, zx_if_eq, zx_if_ne, zx_if_lt, zx_if_ge, zx_if_gt, zx_if_le, zx_icmp_eq, zx_icmp_ne, zx_icmp_lt, zx_icmp_ge, zx_icmp_gt, zx_icmp_le, zx_getfield, zx_putfield, zx_iaload, zx_laload, zx_aaload, zx_iastore, zx_lastore, zx_arraylength, zx_ireturn, zx_lreturn, zx_areturn, zx_return, zx_athrow, zx_static0, zx_static1, zx_virt1, zx_static2, zx_virt2, zx_static3, zx_virt3, zx_static4, zx_virt4, zx_static5, zx_virt5, zx_static6, zx_virt6, zx_static7, zx_virt7, zx_cpI, zx_cpL, ↓cpI, ↓cpL, zx_slen, zx_schr, zx_tsw, zx_spec3, new_X, zx_new1, zrun_nil, zrun_cons, ↓zgi_h, ↓zgi_n, ↓zgl_h, ↓zgl_n, ↓zgr_h, ↓zgr_n, zset1, zset2, zins_nil, zins_c, f3, cat_i, cat_l, cat_r, List.filter_cons, List.filter_nil, Bool.false_eq_true, l_of0, lv_args, Nat.reduceBEq, Nat.reduceAdd, Nat.reduceLeDiff, Nat.reduceLT, Bool.not_true, Bool.not_false, Bool.and_true, Bool.true_and, Bool.and_false, Bool.false_and, Nat.reduceEqDiff, reduceIte, List.contains_cons, List.contains_nil, Bool.or_false, Bool.or_true, Bool.false_or, Bool.true_or, Fin.isValue, Fin.val_zero, Fin.val_one, Fin.val_two, Fin.reduceFinMk, Option.toList_some, Option.toList_none, List.nil_append, List.cons_append, zwt_nil, zwt_i, zwt_l, zwt_r, zthr_nil, List.isEmpty_nil, zcE, ↓ar_k, lgc0, true_and, and_true, true_implies, implies_true, false_implies, forall_const, i_len, ob_0, ob_1, ↓bI_01, bI_0, not_true_eq_false, not_false_eq_true, Bool.not_eq_false, Bool.not_eq_true, ia_add, ia_sub, ia_mul, ia_neg, ↓ldI, ↓ldL, zaI_c, zaL_c, ↓zlen_I, ↓zlen_L, ↓stI, ↓stL, gD_sI, gN_sI, gI_sI, gJ_sI, gR_sI, gA_sI, gB_sI, gT_sI, gD_sJ, gN_sJ, gI_sJ, gJ_sJ, gR_sJ, gA_sJ, gB_sJ, gT_sJ, gD_sR, gN_sR, gI_sR, gJ_sR, gR_sR, gA_sR, gB_sR, gT_sR, gD_sA, gN_sA, gI_sA, gJ_sA, gR_sA, gA_sA, gB_sA, gT_sA, gD_sB, gN_sB, gI_sB, gJ_sB, gR_sB, gA_sB, gB_sB, gT_sB, zx_il0, zx_il1, zx_il2, zx_il3, zx_ll0, zx_ll1, zx_ll2, zx_ll3, zx_al0, zx_al1, zx_al2, zx_al3, e_has, e_bA, e_mn, e_mx, e_pcI, e_pcL, e_low, zml_28, zg28_0, zb28_0, zmc_27, zms_27, zow_27, zhd_27, zmc_28, zms_28, zow_28, zhd_28, zmc_21, zms_21, zow_21, zhd_21, ↓gf_10_3, ↓gf_10_6, ↓gf_10_7, ↓gv_0, ↓gv_10]
    have fz1 : fz 53 56 σ (sB (sB (sB σ 53 f) 54 g) 55 x) := fz_trans (fz_trans (fz_sB (by omega)) (fz_sB (by omega))) (fz_sB (by omega))
    obtain ⟨p, b, hp⟩ := CI_p h
    have fq1 : fQ σ (sB (sB (sB σ 53 f) 54 g) 55 x) := fQ_z fz1 (by omega)
    have hC : CI (sB (sB (sB σ 53 f) 54 g) 55 x) t s := CI_fQ fq1 h (LA_fz fz1 (CI_A h)) ⟨p, b, PS_fs (fs_z fz1) hp⟩ (by obtain ⟨q, q1, q2⟩ := CI_q h; exact ⟨q, q1, q2⟩)
    refine hQ1 m _ rfl (by omega) fq1 hC ⟨CI_A hC, CI_T hC, CI_w h, CI_S hC, CI_l hC, ?_, ?_⟩
    · rw [gB_sB, if_neg (by omega), gB_sB, if_neg (by omega), gB_self, gB_sB, if_neg (by omega), gB_self]
      exact hR
    · rw [gB_self]
      exact hx
  · rename_i c
    exact hQ2 c
