/-! THE TOWN AS THE DOCUMENT HAS IT, and how the class holds it -/
abbrev Tw : Type := (Nat × Nat × Nat × Nat) × (Nat → Nat) × (Nat → Nat) × (Nat → Nat) × (Nat → Nat) × (Nat → Nat) × (Nat → Bool) × (Nat → Nat) × (Nat → Nat) × (Nat → Nat)
def nC (T : Tw) : Nat := T.1.1
def nS (T : Tw) : Nat := T.1.2.1
def nR (T : Tw) : Nat := T.1.2.2.1
def bX (T : Tw) : Nat := T.1.2.2.2
def tX (T : Tw) : Nat → Nat := T.2.1
def tY (T : Tw) : Nat → Nat := T.2.2.1
def tA (T : Tw) : Nat → Nat := T.2.2.2.1
def tB (T : Tw) : Nat → Nat := T.2.2.2.2.1
def tN (T : Tw) : Nat → Nat := T.2.2.2.2.2.1
def tO (T : Tw) : Nat → Bool := T.2.2.2.2.2.2.1
def rA (T : Tw) : Nat → Nat := T.2.2.2.2.2.2.2.1
def rB (T : Tw) : Nat → Nat := T.2.2.2.2.2.2.2.2.1
def rM (T : Tw) : Nat → Nat := T.2.2.2.2.2.2.2.2.2
/-- arcs -/
def isA (T : Tw) (a : Nat) : Bool := decide (a < 2 * nS T) && (decide (a % 2 = 0) || !tO T (a / 2))
def bg (T : Tw) (a : Nat) : Nat := if a % 2 = 0 then tA T (a / 2) else tB T (a / 2)
def en (T : Tw) (a : Nat) : Nat := if a % 2 = 0 then tB T (a / 2) else tA T (a / 2)
def ln (T : Tw) (a : Nat) : Nat := tN T (a / 2)
def wX (T : Tw) (a : Nat) : Int := (tX T (en T a) : Int) - (tX T (bg T a) : Int)
def wY (T : Tw) (a : Nat) : Int := (tY T (en T a) : Int) - (tY T (bg T a) : Int)
/-- what a turn is -/
def tu (T : Tw) (a b : Nat) : Int :=
  if en T a ≠ bg T b then -1 else if a / 2 = b / 2 then 0 else
  if wX T a * wY T b - wY T a * wX T b = 0 then (if 0 < wX T a * wX T b + wY T a * wY T b then 2 else 0)
  else if 0 < wX T a * wY T b - wY T a * wX T b then 3 else 1
/-- signs, allowed: of two streets -/
abbrev Rl : Type := (Nat → Nat → Bool) × (Nat → Nat → Bool)
def my (T : Tw) (r : Rl) (a b : Nat) : Bool := (decide (tu T a b = 1) || decide (tu T a b = 2) || (decide (tu T a b = 3) && r.2 (a / 2) (b / 2))) && !r.1 (a / 2) (b / 2)
def nx (T : Tw) (r : Rl) (a b : Nat) : Bool := isA T a && (isA T b && my T r a b)
def wf (T : Tw) : Prop := nC T ≤ 16 ∧ nS T ≤ 24 ∧ nR T ≤ 12 ∧ bX T < 2 ^ nC T ∧ (∀ s, s < nS T → tA T s < nC T ∧ tB T s < nC T ∧ tA T s ≠ tB T s ∧ 1 ≤ tN T s ∧ tN T s ≤ 99) ∧ (∀ c, c < nC T → tX T c ≤ 99 ∧ tY T c ≤ 99) ∧ (∀ r, r < nR T → rA T r < nC T ∧ rB T r < nC T ∧ rA T r ≠ rB T r ∧ rM T r ≤ 99) ∧ cn (bX T) 16 ≤ 10
theorem isA_lt {T : Tw} {a : Nat} (h : isA T a = true) : a < 2 * nS T := by
  unfold isA at h
  rw [Bool.and_eq_true, decide_eq_true_eq] at h
  exact h.1
theorem wf_bg {T : Tw} (h : wf T) {a : Nat} (ha : a < 2 * nS T) : bg T a < nC T ∧ en T a < nC T ∧ bg T a ≠ en T a ∧ 1 ≤ ln T a ∧ ln T a ≤ 99 := by
  have := h.2.2.2.2.1 (a / 2) (by omega)
  unfold bg en ln
  by_cases e : a % 2 = 0
  · rw [if_pos e, if_pos e]
    exact ⟨this.1, this.2.1, this.2.2.1, this.2.2.2.1, this.2.2.2.2⟩
  · rw [if_neg e, if_neg e]
    exact ⟨this.2.1, this.1, fun z => this.2.2.1 z.symm, this.2.2.2.1, this.2.2.2.2⟩
theorem wf_w {T : Tw} (h : wf T) {a : Nat} (ha : a < 2 * nS T) : -99 ≤ wX T a ∧ wX T a ≤ 99 ∧ -99 ≤ wY T a ∧ wY T a ≤ 99 := by
  obtain ⟨h1, h2, _⟩ := wf_bg h ha
  have h3 := h.2.2.2.2.2.1 _ h1
  have h4 := h.2.2.2.2.2.1 _ h2
  unfold wX wY
  omega
theorem tu_rg {T : Tw} {a b : Nat} : -1 ≤ tu T a b ∧ tu T a b ≤ 3 := by
  unfold tu
  split
  · omega
  · split
    · omega
    · split
      · split <;> omega
      · split <;> omega
/-- the class's town, as far as it is told -/
def CT (σ : zS) (t : Nat) (T : Tw) : Prop := LTown σ t ∧ (t = 18 ∨ t = 32) ∧ gI σ t 0 = Int32.ofInt (nC T) ∧ gI σ t 1 = Int32.ofInt (nS T) ∧ gI σ t 2 = Int32.ofInt (nR T) ∧ gI σ t 3 = Int32.ofInt (bX T) ∧ (∀ a, bt (gJ σ t 5) a = isA T a) ∧ (∀ c, c < nC T → gA σ (t + 1) c = Int32.ofInt (tX T c)) ∧ (∀ c, c < nC T → gA σ (t + 2) c = Int32.ofInt (tY T c)) ∧ (∀ a, a < 2 * nS T → gA σ (t + 3) a = Int32.ofInt (bg T a)) ∧ (∀ a, a < 2 * nS T → gA σ (t + 4) a = Int32.ofInt (en T a)) ∧ (∀ a, a < 2 * nS T → gA σ (t + 5) a = Int32.ofInt (ln T a)) ∧ (∀ r, r < nR T → gA σ (t + 8) (3 * r) = Int32.ofInt (rA T r) ∧ gA σ (t + 8) (3 * r + 1) = Int32.ofInt (rB T r) ∧ gA σ (t + 8) (3 * r + 2) = Int32.ofInt (rM T r))
theorem CT_L {σ : zS} {t : Nat} {T : Tw} (h : CT σ t T) : LTown σ t := h.1
theorem CT_t {σ : zS} {t : Nat} {T : Tw} (h : CT σ t T) : t = 18 ∨ t = 32 := h.2.1
theorem CT_0 {σ : zS} {t : Nat} {T : Tw} (h : CT σ t T) : gI σ t 0 = Int32.ofInt (nC T) := h.2.2.1
theorem CT_1 {σ : zS} {t : Nat} {T : Tw} (h : CT σ t T) : gI σ t 1 = Int32.ofInt (nS T) := h.2.2.2.1
theorem CT_2 {σ : zS} {t : Nat} {T : Tw} (h : CT σ t T) : gI σ t 2 = Int32.ofInt (nR T) := h.2.2.2.2.1
theorem CT_3 {σ : zS} {t : Nat} {T : Tw} (h : CT σ t T) : gI σ t 3 = Int32.ofInt (bX T) := h.2.2.2.2.2.1
theorem CT_5 {σ : zS} {t : Nat} {T : Tw} (h : CT σ t T) : ∀ a, bt (gJ σ t 5) a = isA T a := h.2.2.2.2.2.2.1
theorem CT_x {σ : zS} {t : Nat} {T : Tw} (h : CT σ t T) : ∀ c, c < nC T → gA σ (t + 1) c = Int32.ofInt (tX T c) := h.2.2.2.2.2.2.2.1
theorem CT_y {σ : zS} {t : Nat} {T : Tw} (h : CT σ t T) : ∀ c, c < nC T → gA σ (t + 2) c = Int32.ofInt (tY T c) := h.2.2.2.2.2.2.2.2.1
theorem CT_b {σ : zS} {t : Nat} {T : Tw} (h : CT σ t T) : ∀ a, a < 2 * nS T → gA σ (t + 3) a = Int32.ofInt (bg T a) := h.2.2.2.2.2.2.2.2.2.1
theorem CT_e {σ : zS} {t : Nat} {T : Tw} (h : CT σ t T) : ∀ a, a < 2 * nS T → gA σ (t + 4) a = Int32.ofInt (en T a) := h.2.2.2.2.2.2.2.2.2.2.1
theorem CT_l {σ : zS} {t : Nat} {T : Tw} (h : CT σ t T) : ∀ a, a < 2 * nS T → gA σ (t + 5) a = Int32.ofInt (ln T a) := h.2.2.2.2.2.2.2.2.2.2.2.1
theorem CT_r {σ : zS} {t : Nat} {T : Tw} (h : CT σ t T) : ∀ r, r < nR T → gA σ (t + 8) (3 * r) = Int32.ofInt (rA T r) ∧ gA σ (t + 8) (3 * r + 1) = Int32.ofInt (rB T r) ∧ gA σ (t + 8) (3 * r + 2) = Int32.ofInt (rM T r) := h.2.2.2.2.2.2.2.2.2.2.2.2
theorem CT_sm {σ τ : zS} {t : Nat} {T : Tw} (h : CT σ t T) (hs : ∀ k, k ≤ 13 → sm σ τ (t + k)) : CT τ t T := by
  obtain ⟨h1, h2, h3⟩ := h
  have e : ∀ k, k ≤ 13 → gD τ (t + k) = gD σ (t + k) ∧ gN τ (t + k) = gN σ (t + k) ∧ gI τ (t + k) = gI σ (t + k) ∧ gJ τ (t + k) = gJ σ (t + k) ∧ gR τ (t + k) = gR σ (t + k) ∧ gA τ (t + k) = gA σ (t + k) := fun k hk => ⟨(hs k hk).1, (hs k hk).2.1, (hs k hk).2.2.1, (hs k hk).2.2.2.1, (hs k hk).2.2.2.2.1, (hs k hk).2.2.2.2.2.1⟩
  have e0 := e 0 (by omega)
  rw [Nat.add_zero] at e0
  refine ⟨?_, h2, ?_⟩
  · unfold LTown at h1 ⊢
    simp only [e0, (e 1 (by omega)), (e 2 (by omega)), (e 3 (by omega)), (e 4 (by omega)), (e 5 (by omega)), (e 6 (by omega)), (e 7 (by omega)), (e 8 (by omega)), (e 9 (by omega)), (e 10 (by omega)), (e 11 (by omega)), (e 12 (by omega)), (e 13 (by omega))]
    exact h1
  · simp only [e0, (e 1 (by omega)), (e 2 (by omega)), (e 3 (by omega)), (e 4 (by omega)), (e 5 (by omega)), (e 8 (by omega))]
    exact h3
/-! the town's questions -/
theorem brE {c A B : Prop} [Decidable c] : ((c → A) ∧ (¬ c → B)) = (if c then A else B) := by
  by_cases h : c
  · rw [if_pos h]
    exact propext ⟨fun z => z.1 h, fun z => ⟨fun _ => z, fun n => absurd h n⟩⟩
  · rw [if_neg h]
    exact propext ⟨fun z => z.2 h, fun z => ⟨fun n => absurd n h, fun _ => z⟩⟩
theorem brN {c A B : Prop} [Decidable c] : ((¬ c → A) ∧ (c → B)) = (if c then B else A) := by
  by_cases h : c
  · rw [if_pos h]
    exact propext ⟨fun z => z.2 h, fun z => ⟨fun n => absurd h n, fun _ => z⟩⟩
  · rw [if_neg h]
    exact propext ⟨fun z => z.1 h, fun z => ⟨fun _ => z, fun n => absurd n h⟩⟩
theorem brB {b : Bool} {A B : Prop} : ((b = false → A) ∧ (b = true → B)) = (if b = true then B else A) := by
  cases b
  · exact propext ⟨fun z => z.1 rfl, fun z => ⟨fun _ => z, fun n => (by cases n)⟩⟩
  · exact propext ⟨fun z => z.2 rfl, fun z => ⟨fun n => (by cases n), fun _ => z⟩⟩
theorem q1 {Q : zQ} {h : zH} {b : Bool} (hb : b = true) : Q (.inl (some (.int (Int32.ofInt 1)))) h = Q (.inl (some (.int (bI b)))) h := by
  rw [hb]
  rfl
theorem q0 {Q : zQ} {h : zH} {b : Bool} (hb : b = false) : Q (.inl (some (.int (Int32.ofInt 0)))) h = Q (.inl (some (.int (bI b)))) h := by
  rw [hb]
  rfl
theorem i_inT {a : Int} {n : Nat} (h : 0 ≤ a ∧ a < n) (hn : n ≤ 2147483648) : vp_in (Int32.ofInt a) n = True := by
  rw [i_in (by omega)]
  exact eq_true h
theorem i_natN {a : Nat} (h : a < 2147483648) : (Int32.ofInt a).toNatClampNeg = a := by
  rw [i_nat (by omega), Int.toNat_natCast]
theorem e_isArc {σ : zS} {t : Nat} {T : Tw} {a : Int} {Q : zQ} (h : CT σ t T) (hw : wf T) (hr : -2147483648 ≤ a ∧ a < 2147483648) : zW zP 119 [.ref t, .int (Int32.ofInt a)] (hOf σ) Q = Q (.inl (some (.int (bI (decide (0 ≤ a) && isA T a.toNat))))) (hOf σ) := by
  rw [zWE]
  simp only [zx_iconst, zx_bipush, zx_sipush, zx_lconst, zx_ldc, zx_ldcS, zx_ldc_w, zx_ldc2_w, zx_iload_n, zx_iload, zx_lload_n, zx_lload, zx_aload_n, zx_aload, zx_istore_n, zx_istore, zx_lstore_n, zx_lstore, zx_astore_n, zx_astore, zx_iinc, zx_iadd, zx_isub, zx_imul, zx_iand, zx_ior, zx_ixor, zx_ishl, zx_ishr, zx_iushr, zx_idiv, zx_irem, zx_ineg, zx_ladd, zx_lsub, zx_land, zx_lor, zx_lxor, zx_lneg, zx_lshl, zx_lushr, zx_i2l, zx_l2i, zx_lcmp, zx_dup, zx_dup2, zx_pop, zx_goto, zx_if_eq, zx_if_ne, zx_if_lt, zx_if_ge, zx_if_gt, zx_if_le, zx_icmp_eq, zx_icmp_ne, zx_icmp_lt, zx_icmp_ge, zx_icmp_gt, zx_icmp_le, zx_getfield, zx_putfield, zx_iaload, zx_laload, zx_aaload, zx_iastore, zx_lastore, zx_arraylength, zx_ireturn, zx_lreturn, zx_areturn, zx_return, zx_athrow, zx_static0, zx_static1, zx_virt1, zx_static2, zx_virt2, zx_static3, zx_virt3, zx_static4, zx_virt4, zx_static5, zx_virt5, zx_static6, zx_virt6, zx_static7, zx_virt7, zx_cpI, zx_cpL, ↓cpI, ↓cpL, zx_slen, zx_schr, zx_tsw, zx_spec3, new_X, zx_new1, zrun_nil, zrun_cons, ↓zgi_h, ↓zgi_n, ↓zgl_h, ↓zgl_n, ↓zgr_h, ↓zgr_n, zset1, zset2, zins_nil, zins_c, f3, cat_i, cat_l, cat_r, List.filter_cons, List.filter_nil, Bool.false_eq_true, l_of0, lv_args, Nat.reduceBEq, Nat.reduceAdd, Nat.reduceLeDiff, Nat.reduceLT, Bool.not_true, Bool.not_false, Bool.and_true, Bool.true_and, Bool.and_false, Bool.false_and, Nat.reduceEqDiff, reduceIte, List.contains_cons, List.contains_nil, Bool.or_false, Bool.or_true, Bool.false_or, Bool.true_or, Fin.isValue, Fin.val_zero, Fin.val_one, Fin.val_two, Fin.reduceFinMk, Option.toList_some, Option.toList_none, List.nil_append, List.cons_append, zwt_nil, zwt_i, zwt_l, zwt_r, zthr_nil, List.isEmpty_nil, zcE, ↓ar_k, lgc0, true_and, and_true, true_implies, implies_true, false_implies, forall_const, i_len, ob_0, ob_1, ↓bI_01, bI_0, not_true_eq_false, not_false_eq_true, Bool.not_eq_false, Bool.not_eq_true, ia_add, ia_sub, ia_mul, ia_neg, ↓ldI, ↓ldL, zaI_c, zaL_c, ↓zlen_I, ↓zlen_L, ↓stI, ↓stL, gD_sI, gN_sI, gI_sI, gJ_sI, gR_sI, gA_sI, gB_sI, gT_sI, gD_sJ, gN_sJ, gI_sJ, gJ_sJ, gR_sJ, gA_sJ, gB_sJ, gT_sJ, gD_sR, gN_sR, gI_sR, gJ_sR, gR_sR, gA_sR, gB_sR, gT_sR, gD_sA, gN_sA, gI_sA, gJ_sA, gR_sA, gA_sA, gB_sA, gT_sA, gD_sB, gN_sB, gI_sB, gJ_sB, gR_sB, gA_sB, gB_sB, gT_sB, e_has, e_bA, e_mn, e_mx, e_pcI, e_pcL, e_low, zml_119, zg119_0, zb119_0, zg119_29, zb119_29, zg119_30, zb119_30, zmc_31, zms_31, zow_31, zhd_31, zmc_119, zms_119, zow_119, zhd_119, ↓gf_8_1, ↓gf_8_5, show ztg 1 28 = 29 from rfl, show ztg 11 18 = 29 from rfl, show ztg 22 7 = 29 from rfl, show ztg 26 4 = 30 from rfl, LTown_g (CT_L h), LTown_d (CT_L h), LTown_r6 (CT_L h), LTown_k6 (CT_L h), LTown_n6 (CT_L h), LTown_r7 (CT_L h), LTown_k7 (CT_L h), LTown_n7 (CT_L h), LTown_r8 (CT_L h), LTown_k8 (CT_L h), LTown_n8 (CT_L h), LTown_r9 (CT_L h), LTown_k9 (CT_L h), LTown_n9 (CT_L h), LTown_r10 (CT_L h), LTown_k10 (CT_L h), LTown_n10 (CT_L h), LTown_r11 (CT_L h), LTown_k11 (CT_L h), LTown_n11 (CT_L h), LTown_r12 (CT_L h), LTown_k12 (CT_L h), LTown_n12 (CT_L h), LTown_r13 (CT_L h), LTown_k13 (CT_L h), LTown_n13 (CT_L h), LTown_r14 (CT_L h), LTown_k14 (CT_L h), LTown_n14 (CT_L h), LTown_r15 (CT_L h), LTown_k15 (CT_L h), LTown_n15 (CT_L h), LTown_r16 (CT_L h), LTown_k16 (CT_L h), LTown_n16 (CT_L h), LTown_r17 (CT_L h), LTown_k17 (CT_L h), LTown_n17 (CT_L h), LTown_r18 (CT_L h), LTown_k18 (CT_L h), LTown_n18 (CT_L h), CT_1 h]
  have h24 := hw.2.1
  simp (disch := omega) only [ii_lt0, ii_le]
  by_cases c1 : a < 0
  · rw [decide_eq_false (by omega)]
    exact propext ⟨fun z => z.1 c1, fun z => ⟨fun _ => z, fun hn => absurd c1 hn⟩⟩
  · have e : a = (a.toNat : Int) := by omega
    generalize a.toNat = n at e ⊢
    subst e
    rw [decide_eq_true (by omega), Bool.true_and]
    by_cases c2 : (2 : Int) * (nS T : Int) ≤ n
    · have : isA T n = false := by
        cases e : isA T n with
        | false => rfl
        | true =>
          have := isA_lt e
          omega
      rw [this]
      exact propext ⟨fun z => (z.2 c1).1 c2, fun z => ⟨fun hn => absurd hn c1, fun _ => ⟨fun _ => z, fun hn => absurd c2 hn⟩⟩⟩
    · rw [hs_of (by omega), CT_5 h]
      cases isA T n with
      | false => exact propext ⟨fun z => ((z.2 c1).2 c2).1 rfl, fun z => ⟨fun hn => absurd hn c1, fun _ => ⟨fun hn => absurd hn c2, fun _ => ⟨fun _ => z, fun hn => (by cases hn)⟩⟩⟩⟩
      | true => exact propext ⟨fun z => ((z.2 c1).2 c2).2 rfl, fun z => ⟨fun hn => absurd hn c1, fun _ => ⟨fun hn => absurd hn c2, fun _ => ⟨fun hn => (by cases hn), fun _ => z⟩⟩⟩⟩
theorem sq_rg {x y u v : Int} (h1 : -99 ≤ x ∧ x ≤ 99) (h2 : -99 ≤ y ∧ y ≤ 99) : -9801 ≤ x * y ∧ x * y ≤ 9801 := by
  have e : (x * y).natAbs ≤ 9801 := by
    rw [Int.natAbs_mul]
    exact Nat.mul_le_mul (show x.natAbs ≤ 99 by omega) (show y.natAbs ≤ 99 by omega)
  omega
theorem e_kind {σ : zS} {t : Nat} {T : Tw} {a b : Nat} {Q : zQ} (h : CT σ t T) (hw : wf T) (ha : a < 2 * nS T) (hb : b < 2 * nS T) : zW zP 191 [.ref t, .int (Int32.ofInt a), .int (Int32.ofInt b)] (hOf σ) Q = Q (.inl (some (.int (Int32.ofInt (tu T a b))))) (hOf σ) := by
  rw [zWE]
  simp only [zx_iconst, zx_bipush, zx_sipush, zx_lconst, zx_ldc, zx_ldcS, zx_ldc_w, zx_ldc2_w, zx_iload_n, zx_iload, zx_lload_n, zx_lload, zx_aload_n, zx_aload, zx_istore_n, zx_istore, zx_lstore_n, zx_lstore, zx_astore_n, zx_astore, zx_iinc, zx_iadd, zx_isub, zx_imul, zx_iand, zx_ior, zx_ixor, zx_ishl, zx_ishr, zx_iushr, zx_idiv, zx_irem, zx_ineg, zx_ladd, zx_lsub, zx_land, zx_lor, zx_lxor, zx_lneg, zx_lshl, zx_lushr, zx_i2l, zx_l2i, zx_lcmp, zx_dup, zx_dup2, zx_pop, zx_goto, zx_if_eq, zx_if_ne, zx_if_lt, zx_if_ge, zx_if_gt, zx_if_le, zx_icmp_eq, zx_icmp_ne, zx_icmp_lt, zx_icmp_ge, zx_icmp_gt, zx_icmp_le, zx_getfield, zx_putfield, zx_iaload, zx_laload, zx_aaload, zx_iastore, zx_lastore, zx_arraylength, zx_ireturn, zx_lreturn, zx_areturn, zx_return, zx_athrow, zx_static0, zx_static1, zx_virt1, zx_static2, zx_virt2, zx_static3, zx_virt3, zx_static4, zx_virt4, zx_static5, zx_virt5, zx_static6, zx_virt6, zx_static7, zx_virt7, zx_cpI, zx_cpL, ↓cpI, ↓cpL, zx_slen, zx_schr, zx_tsw, zx_spec3, new_X, zx_new1, zrun_nil, zrun_cons, ↓zgi_h, ↓zgi_n, ↓zgl_h, ↓zgl_n, ↓zgr_h, ↓zgr_n, zset1, zset2, zins_nil, zins_c, f3, cat_i, cat_l, cat_r, List.filter_cons, List.filter_nil, Bool.false_eq_true, l_of0, lv_args, Nat.reduceBEq, Nat.reduceAdd, Nat.reduceLeDiff, Nat.reduceLT, Bool.not_true, Bool.not_false, Bool.and_true, Bool.true_and, Bool.and_false, Bool.false_and, Nat.reduceEqDiff, reduceIte, List.contains_cons, List.contains_nil, Bool.or_false, Bool.or_true, Bool.false_or, Bool.true_or, Fin.isValue, Fin.val_zero, Fin.val_one, Fin.val_two, Fin.reduceFinMk, Option.toList_some, Option.toList_none, List.nil_append, List.cons_append, zwt_nil, zwt_i, zwt_l, zwt_r, zthr_nil, List.isEmpty_nil, zcE, ↓ar_k, lgc0, true_and, and_true, true_implies, implies_true, false_implies, forall_const, i_len, ob_0, ob_1, ↓bI_01, bI_0, not_true_eq_false, not_false_eq_true, Bool.not_eq_false, Bool.not_eq_true, ia_add, ia_sub, ia_mul, ia_neg, ↓ldI, ↓ldL, zaI_c, zaL_c, ↓zlen_I, ↓zlen_L, ↓stI, ↓stL, gD_sI, gN_sI, gI_sI, gJ_sI, gR_sI, gA_sI, gB_sI, gT_sI, gD_sJ, gN_sJ, gI_sJ, gJ_sJ, gR_sJ, gA_sJ, gB_sJ, gT_sJ, gD_sR, gN_sR, gI_sR, gJ_sR, gR_sR, gA_sR, gB_sR, gT_sR, gD_sA, gN_sA, gI_sA, gJ_sA, gR_sA, gA_sA, gB_sA, gT_sA, gD_sB, gN_sB, gI_sB, gJ_sB, gR_sB, gA_sB, gB_sB, gT_sB, e_has, e_bA, e_mn, e_mx, e_pcI, e_pcL, e_low, zml_191, zg191_0, zb191_0, zg191_17, zb191_17, zg191_28, zb191_28, zg191_153, zb191_153, zg191_154, zb191_154, zg191_155, zb191_155, zg191_172, zb191_172, zg191_173, zb191_173, zmc_191, zms_191, zow_191, zhd_191, ↓gf_8_6, ↓gf_8_7, ↓gf_8_8, ↓gf_8_9, show ztg 12 5 = 17 from rfl, show ztg 141 14 = 155 from rfl, show ztg 146 7 = 153 from rfl, show ztg 150 4 = 154 from rfl, show ztg 165 7 = 172 from rfl, show ztg 169 4 = 173 from rfl, show ztg 23 5 = 28 from rfl, LTown_g (CT_L h), LTown_d (CT_L h), LTown_r6 (CT_L h), LTown_k6 (CT_L h), LTown_n6 (CT_L h), LTown_r7 (CT_L h), LTown_k7 (CT_L h), LTown_n7 (CT_L h), LTown_r8 (CT_L h), LTown_k8 (CT_L h), LTown_n8 (CT_L h), LTown_r9 (CT_L h), LTown_k9 (CT_L h), LTown_n9 (CT_L h), LTown_r10 (CT_L h), LTown_k10 (CT_L h), LTown_n10 (CT_L h), LTown_r11 (CT_L h), LTown_k11 (CT_L h), LTown_n11 (CT_L h), LTown_r12 (CT_L h), LTown_k12 (CT_L h), LTown_n12 (CT_L h), LTown_r13 (CT_L h), LTown_k13 (CT_L h), LTown_n13 (CT_L h), LTown_r14 (CT_L h), LTown_k14 (CT_L h), LTown_n14 (CT_L h), LTown_r15 (CT_L h), LTown_k15 (CT_L h), LTown_n15 (CT_L h), LTown_r16 (CT_L h), LTown_k16 (CT_L h), LTown_n16 (CT_L h), LTown_r17 (CT_L h), LTown_k17 (CT_L h), LTown_n17 (CT_L h), LTown_r18 (CT_L h), LTown_k18 (CT_L h), LTown_n18 (CT_L h), CT_1 h]
  have h24 := hw.2.1
  have h16 := hw.1
  obtain ⟨a1, a2, a3, a4, a5⟩ := wf_bg hw ha
  obtain ⟨b1, b2, b3, b4, b5⟩ := wf_bg hw hb
  have k2 : ¬ Int32.ofInt 2 = 0 := by decide
  simp (disch := omega) only [i_natN, CT_e h a ha, CT_b h b hb, CT_e h b hb, CT_b h a ha, i_inT, ia_div, ii_eq, true_and, k2, not_false_eq_true, CT_x h _ a1, CT_x h _ a2, CT_x h _ b1, CT_x h _ b2, CT_y h _ a1, CT_y h _ a2, CT_y h _ b1, CT_y h _ b2, ia_sub, ia_mul, ia_add]
  obtain ⟨wa1, wa2, wa3, wa4⟩ := wf_w hw ha
  obtain ⟨wb1, wb2, wb3, wb4⟩ := wf_w hw hb
  have p1 := sq_rg (u := 0) (v := 0) (show -99 ≤ wX T a ∧ wX T a ≤ 99 from ⟨wa1, wa2⟩) (show -99 ≤ wY T b ∧ wY T b ≤ 99 from ⟨wb3, wb4⟩)
  have p2 := sq_rg (u := 0) (v := 0) (show -99 ≤ wY T a ∧ wY T a ≤ 99 from ⟨wa3, wa4⟩) (show -99 ≤ wX T b ∧ wX T b ≤ 99 from ⟨wb1, wb2⟩)
  have p3 := sq_rg (u := 0) (v := 0) (show -99 ≤ wX T a ∧ wX T a ≤ 99 from ⟨wa1, wa2⟩) (show -99 ≤ wX T b ∧ wX T b ≤ 99 from ⟨wb1, wb2⟩)
  have p4 := sq_rg (u := 0) (v := 0) (show -99 ≤ wY T a ∧ wY T a ≤ 99 from ⟨wa3, wa4⟩) (show -99 ≤ wY T b ∧ wY T b ≤ 99 from ⟨wb3, wb4⟩)
  simp only [show (tX T (en T a) : Int) - (tX T (bg T a) : Int) = wX T a from rfl, show (tY T (en T a) : Int) - (tY T (bg T a) : Int) = wY T a from rfl, show (tX T (en T b) : Int) - (tX T (bg T b) : Int) = wX T b from rfl, show (tY T (en T b) : Int) - (tY T (bg T b) : Int) = wY T b from rfl]
  unfold tu
  generalize wX T a * wY T b = u1 at *
  generalize wY T a * wX T b = u2 at *
  generalize wX T a * wX T b = u3 at *
  generalize wY T a * wY T b = u4 at *
  simp (disch := omega) only [ii_eq0, ii_le0]
  simp only [brE, brN]
  (repeat' split) <;> first | rfl | (exfalso; omega)
