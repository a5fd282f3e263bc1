/-! THE LEAST SET -/
/-- of those below n that, one of the least, the first -/
noncomputable def bw (P : Nat → Bool) (S : Nat → Nat) (n : Nat) : Option Nat := lw (fun b => b < n ∧ P b = true ∧ ∀ s, s < n → P s = true → S b ≤ S s)
theorem bw_some {P : Nat → Bool} {S : Nat → Nat} {n b : Nat} (h : bw P S n = some b) : b < n ∧ P b = true ∧ (∀ s, s < n → P s = true → S b ≤ S s) := (lw_some.1 h).1
theorem bw_ex {P : Nat → Bool} {S : Nat → Nat} {n x : Nat} (hx : x < n) (hp : P x = true) : ∃ b, bw P S n = some b := by
  have : ∀ v y, S y = v → y < n → P y = true → ∃ b, b < n ∧ P b = true ∧ ∀ s, s < n → P s = true → S b ≤ S s := by
    intro v
    induction v using Nat.strongRecOn with
    | ind v ih =>
      intro y hv hy hpy
      by_cases h : ∃ z, z < n ∧ P z = true ∧ S z < v
      · obtain ⟨z, z1, z2, z3⟩ := h
        exact ih (S z) z3 z rfl z1 z2
      · refine ⟨y, hy, hpy, fun s hs hps => ?_⟩
        apply Classical.byContradiction
        intro hlt
        exact h ⟨s, hs, hps, by omega⟩
  obtain ⟨b, hb⟩ := this _ x rfl hx hp
  cases e : bw P S n with
  | some b => exact ⟨b, rfl⟩
  | none => exact absurd hb (lw_none.1 e b)
theorem bw_none {P : Nat → Bool} {S : Nat → Nat} {n : Nat} (h : bw P S n = none) : ∀ s, s < n → P s = false := by
  intro s hs
  cases e : P s with
  | false => rfl
  | true =>
    obtain ⟨b, hb⟩ := bw_ex (S := S) hs e
    rw [h] at hb
    cases hb
theorem bw_skip {P : Nat → Bool} {S : Nat → Nat} {n n2 : Nat} (hn : n ≤ n2) (h : ∀ x, n ≤ x → x < n2 → P x = true → ∃ s, s < n ∧ P s = true ∧ S s ≤ S x) : bw P S n2 = bw P S n := by
  cases e : bw P S n with
  | none =>
    have hn2 := bw_none e
    refine lw_none.2 (fun b ⟨h1, h2, _⟩ => ?_)
    by_cases hb : b < n
    · rw [hn2 b hb] at h2
      cases h2
    · obtain ⟨s, k1, k2, _⟩ := h b (by omega) h1 h2
      rw [hn2 s k1] at k2
      cases k2
  | some b =>
    obtain ⟨⟨h1, h2, h3⟩, h4⟩ := lw_some.1 e
    refine lw_some.2 ⟨⟨by omega, h2, fun s hs hp => ?_⟩, fun m hm ⟨m1, m2, m3⟩ => h4 m hm ⟨by omega, m2, fun s hs hp => m3 s (by omega) hp⟩⟩
    by_cases e : s < n
    · exact h3 s e hp
    · obtain ⟨s2, k1, k2, k3⟩ := h s (by omega) hs hp
      have := h3 s2 k1 k2
      omega
theorem bw_take {P : Nat → Bool} {S : Nat → Nat} {b n2 : Nat} (hb : P b = true) (hlt : ∀ s, s < b → P s = true → S b < S s) (hge : ∀ x, b < x → x < n2 → P x = true → S b ≤ S x) (hn : b < n2) : bw P S n2 = some b := by
  refine lw_some.2 ⟨⟨hn, hb, fun s hs hp => ?_⟩, fun m hm ⟨_, m2, m3⟩ => ?_⟩
  · rcases Nat.lt_trichotomy s b with h1 | h1 | h1
    · have := hlt s h1 hp
      omega
    · rw [h1]
      exact Nat.le_refl _
    · exact hge s h1 hs hp
  · have := hlt m hm m2
    have := m3 b hn hb
    omega
theorem sub_l {k q x : Nat} (hx : x < 2 ^ k) : ∀ j, (2 ^ k * q).testBit j = true → (2 ^ k * q + x).testBit j = true := by
  intro j
  rw [Nat.testBit_two_pow_mul_add q hx, Nat.testBit_two_pow_mul]
  intro h
  rw [Bool.and_eq_true, decide_eq_true_eq] at h
  rw [if_neg (by omega)]
  exact h.2
theorem sub_r {k q x : Nat} (hx : x < 2 ^ k) : ∀ j, (2 ^ k * q + x).testBit j = true → (2 ^ k * q ||| (2 ^ k - 1)).testBit j = true := by
  intro j
  rw [Nat.testBit_two_pow_mul_add q hx, Nat.testBit_or, Nat.testBit_two_pow_mul, Nat.testBit_two_pow_sub_one, Bool.or_eq_true, Bool.and_eq_true, decide_eq_true_eq, decide_eq_true_eq]
  intro h
  by_cases e : j < k
  · exact .inr e
  · rw [if_neg e] at h
    exact .inl ⟨by omega, h⟩
theorem low_q {m k : Nat} (h : ∀ j, j < k → m.testBit j = false) : m = 2 ^ k * (m / 2 ^ k) := by
  apply Nat.eq_of_testBit_eq
  intro j
  rw [Nat.testBit_two_pow_mul, Nat.testBit_div_two_pow]
  by_cases e : k ≤ j
  · rw [decide_eq_true e, Bool.true_and, show j - k + k = j from by omega]
  · rw [decide_eq_false e, Bool.false_and]
    exact h j (by omega)
theorem i_low {m i : Nat} (h1 : m.testBit i = true) (h2 : ∀ j, j < i → m.testBit j = false) (hi : i < 31) : Int32.ofInt m &&& Int32.ofInt (-(m : Int)) = Int32.ofInt ((2 ^ i : Nat) : Int) := by
  rw [← ia_neg]
  apply Int32.toBitVec.inj
  rw [Int32.toBitVec_and, Int32.toBitVec_neg, i_bv, i_bv]
  apply BitVec.eq_of_getLsbD_eq
  intro j hj
  rw [BitVec.getLsbD_and, BitVec.getLsbD_neg, BitVec.getLsbD_ofNat, BitVec.getLsbD_ofNat, decide_eq_true hj, Bool.true_and, Bool.true_and, Bool.true_and, Nat.testBit_two_pow]
  by_cases e : i = j
  · subst e
    rw [h1, decide_eq_true rfl, decide_eq_false]
    · rfl
    · intro ⟨k, k1, k2⟩
      rw [BitVec.getLsbD_ofNat, h2 k k1, Bool.and_false] at k2
      cases k2
  · rw [decide_eq_false e]
    by_cases h3 : j < i
    · rw [h2 j h3]
      rfl
    · rw [decide_eq_true (p := ∃ k, k < j ∧ (BitVec.ofNat 32 m).getLsbD k = true)]
      · cases m.testBit j <;> rfl
      · refine ⟨i, by omega, ?_⟩
        rw [BitVec.getLsbD_ofNat, h1, decide_eq_true (by omega)]
        rfl
theorem nx_mono {T : Tw} {g al al2 : Nat → Nat → Bool} (h : ∀ s u, al s u = true → al2 s u = true) : ∀ a b, nx T (g, al) a b = true → nx T (g, al2) a b = true := by
  intro a b
  unfold nx my
  dsimp only
  intro z
  have := h (a / 2) (b / 2)
  cases e1 : al (a / 2) (b / 2) with
  | true =>
    rw [e1] at z
    rw [this e1]
    exact z
  | false =>
    rw [e1] at z
    cases al2 (a / 2) (b / 2) with
    | false => exact z
    | true =>
      revert z
      cases isA T a <;> cases isA T b <;> cases decide (tu T a b = 1) <;> cases decide (tu T a b = 2) <;> cases decide (tu T a b = 3) <;> cases g (a / 2) (b / 2) <;> simp
theorem RC_mono {T : Tw} {R R2 : Nat → Nat → Bool} (h : ∀ a b, R a b = true → R2 a b = true) {c d : Nat} (hc : RC T R c d) : RC T R2 c d := by
  rcases hc with hc | ⟨a, b, h1, h2, h3, h4⟩
  · exact .inl hc
  · exact .inr ⟨a, b, h1, h2, rt_mono h h3, h4⟩
theorem op_mono {T : Tw} {r : Rl} {a b : Nat} (h : ∀ j, a.testBit j = true → b.testBit j = true) (ho : op T (nb T r a) = true) : op T (nb T r b) = true := by
  refine cB_iff.2 (fun c d hc hd => ?_)
  have := cB_iff.1 ho c d hc hd
  refine cB_iff.2 (RC_mono (nx_mono (fun s u => ?_)) (cB_iff.1 this))
  unfold ap
  rw [Bool.or_eq_true, Bool.or_eq_true, cB_iff, cB_iff]
  intro z
  rcases z with z | ⟨i, z1, z2, z3⟩
  · exact .inl z
  · exact .inr ⟨i, z1, h i z2, z3⟩
def SI (T : Tw) (r : Rl) (S : Nat → Nat) (σ τ : zS) (o : Option Nat) : Prop := fz 59 63 σ τ ∧ gA τ 60 = gA σ 60 ∧ CF τ T r ∧ gI τ 59 1 = Int32.ofInt (oI (o.map S)) ∧ gI τ 59 2 = Int32.ofInt (oI o)
theorem SI_op {T : Tw} {r : Rl} {S : Nat → Nat} {σ τ : zS} {o : Option Nat} {x : Nat → Int64} {s : Nat} (h : SI T r S σ τ o) (hs : s < 16) : SI T r S σ (sI (sB τ 62 x) 59 6 (Int32.ofInt s)) o := by
  obtain ⟨h1, h2, ⟨h3, h4, h5⟩, h6, h7⟩ := h
  refine ⟨fz_trans h1 (fz_trans (fz_sB (by omega)) (fz_sI (by omega))), h2, ⟨?_, h4, s, hs, ?_⟩, ?_, ?_⟩
  · rw [gI_sI, if_neg (by omega)]
    exact h3
  · rw [gI_sI, if_pos ⟨rfl, rfl⟩]
  · rw [gI_sI, if_neg (by omega)]
    exact h6
  · rw [gI_sI, if_neg (by omega)]
    exact h7
theorem SI_best {T : Tw} {r : Rl} {S : Nat → Nat} {σ τ : zS} {o : Option Nat} {b : Nat} (h : SI T r S σ τ o) : SI T r S σ (sI (sI τ 59 1 (Int32.ofInt (S b))) 59 2 (Int32.ofInt b)) (some b) := by
  obtain ⟨h1, h2, ⟨h3, h4, s, h5, h6⟩, h7, h8⟩ := h
  refine ⟨fz_trans h1 (fz_trans (fz_sI (by omega)) (fz_sI (by omega))), h2, ⟨?_, h4, s, h5, ?_⟩, ?_, ?_⟩
  · rw [gI_sI, if_neg (by omega), gI_sI, if_neg (by omega)]
    exact h3
  · rw [gI_sI, if_neg (by omega), gI_sI, if_neg (by omega)]
    exact h6
  · rw [gI_sI, if_neg (by omega), gI_sI, if_pos ⟨rfl, rfl⟩]
    rfl
  · rw [gI_sI, if_pos ⟨rfl, rfl⟩]
    rfl
theorem u_search {σ : zS} {t : Nat} {T : Tw} {r : Rl} {w : Nat → Nat} {Q : zQ} (h : QC σ t T r) (hf : CF σ T r) (hw : ∀ i, i < cm T r → gA σ 60 i = Int32.ofInt (w i) ∧ w i ≤ 1000) (hQ : ∀ τ, fz 59 63 σ τ → CF τ T r → gI τ 59 1 = Int32.ofInt (oI ((bw (fun b => op T (nb T r b)) (fun b => sb w b (cm T r)) (2 ^ cm T r)).map (fun b => sb w b (cm T r)))) → gI τ 59 2 = Int32.ofInt (oI (bw (fun b => op T (nb T r b)) (fun b => sb w b (cm T r)) (2 ^ cm T r))) → Q (.inl none) (hOf τ)) : zW zP 83 [.ref 59, .ref t, .ref 52] (hOf σ) Q := by
  have ht := CT_t (QC_T h)
  have hcm : cm T r ≤ 14 := by unfold cm; omega
  have p14 : (2 : Nat) ^ cm T r ≤ 16384 := Nat.pow_le_pow_right (n := 2) (by omega) hcm
  have p0 := Nat.two_pow_pos (cm T r)
  have hS : ∀ b, sb w b (cm T r) ≤ 14000 := fun b => by
    have := sb_le (w := w) (bits := b) (B := 1000) (cm T r) (fun i hi => (hw i hi).2)
    omega
  generalize hSd : (fun b => sb w b (cm T r)) = S at hQ
  generalize hPd : (fun b => op T (nb T r b)) = P at hQ
  have eS : ∀ b, sb w b (cm T r) = S b := fun b => congrFun hSd b
  have eP : ∀ b, op T (nb T r b) = P b := fun b => congrFun hPd b
  have P_mono : ∀ a b : Nat, (∀ j, a.testBit j = true → b.testBit j = true) → P a = true → P b = true := by
    intro a b hab
    rw [← eP, ← eP]
    exact op_mono hab
  have S_mono : ∀ a b : Nat, (∀ j, a.testBit j = true → b.testBit j = true) → S a ≤ S b := by
    intro a b hab
    rw [← eS, ← eS]
    exact sb_mono hab _
  have hS2 : ∀ b, S b ≤ 14000 := fun b => by rw [← eS]; exact hS b
  have fin : ∀ τ, SI T r S σ τ (bw P S (2 ^ cm T r)) → Q (.inl none) (hOf τ) := fun τ hs => hQ τ hs.1 hs.2.2.1 hs.2.2.2.1 hs.2.2.2.2
  have hlC := LA_Choices (QC_A h)
  rw [zWE]
  simp only [zx_iconst, zx_bipush, zx_sipush, zx_lconst, zx_ldc, zx_ldcS, zx_ldc_w, zx_ldc2_w, zx_iload, zx_lload, zx_aload, zx_istore_n, zx_istore, zx_lstore_n, zx_lstore, zx_astore_n, zx_astore, zx_iinc, zx_iadd, zx_isub, zx_imul, zx_iand, zx_ior, zx_ixor, zx_ishl, zx_ishr, zx_iushr, zx_idiv, zx_irem, zx_ineg, zx_ladd, zx_lsub, zx_land, zx_lor, zx_lxor, zx_lneg, zx_lshl, zx_lushr, zx_i2l, zx_l2i, zx_lcmp, zx_dup, zx_dup2, zx_pop, zx_goto, zx_if_eq, zx_if_ne, zx_if_lt, zx_if_ge, zx_if_gt, zx_if_le, zx_icmp_eq, zx_icmp_ne, zx_icmp_lt, zx_icmp_ge, zx_icmp_gt, zx_icmp_le, zx_getfield, zx_putfield, zx_iaload, zx_laload, zx_aaload, zx_iastore, zx_lastore, zx_arraylength, zx_ireturn, zx_lreturn, zx_areturn, zx_return, zx_athrow, zx_static0, zx_static1, zx_virt1, zx_static2, zx_virt2, zx_static3, zx_virt3, zx_static4, zx_virt4, zx_static5, zx_virt5, zx_static6, zx_virt6, zx_static7, zx_virt7, zx_cpI, zx_cpL, ↓cpI, ↓cpL, zx_slen, zx_schr, zx_tsw, zx_spec3, new_X, zx_new1, zrun_nil, zrun_cons, ↓zgi_h, ↓zgi_n, ↓zgl_h, ↓zgl_n, ↓zgr_h, ↓zgr_n, zset1, zset2, zins_nil, zins_c, f3, cat_i, cat_l, cat_r, List.filter_cons, List.filter_nil, Bool.false_eq_true, l_of0, lv_args, Nat.reduceBEq, Nat.reduceAdd, Nat.reduceLeDiff, Nat.reduceLT, Bool.not_true, Bool.not_false, Bool.and_true, Bool.true_and, Bool.and_false, Bool.false_and, Nat.reduceEqDiff, reduceIte, List.contains_cons, List.contains_nil, Bool.or_false, Bool.or_true, Bool.false_or, Bool.true_or, Fin.isValue, Fin.val_zero, Fin.val_one, Fin.val_two, Fin.reduceFinMk, Option.toList_some, Option.toList_none, List.nil_append, List.cons_append, zwt_nil, zwt_i, zwt_l, zwt_r, zthr_nil, List.isEmpty_nil, zcE, ↓ar_k, lgc0, true_and, and_true, true_implies, implies_true, false_implies, forall_const, i_len, ob_0, ob_1, ↓bI_01, bI_0, not_true_eq_false, not_false_eq_true, Bool.not_eq_false, Bool.not_eq_true, ia_add, ia_sub, ia_mul, ia_neg, ↓ldI, ↓ldL, zaI_c, zaL_c, ↓zlen_I, ↓zlen_L, ↓stI, ↓stL, gD_sI, gN_sI, gI_sI, gJ_sI, gR_sI, gA_sI, gB_sI, gT_sI, gD_sJ, gN_sJ, gI_sJ, gJ_sJ, gR_sJ, gA_sJ, gB_sJ, gT_sJ, gD_sR, gN_sR, gI_sR, gJ_sR, gR_sR, gA_sR, gB_sR, gT_sR, gD_sA, gN_sA, gI_sA, gJ_sA, gR_sA, gA_sA, gB_sA, gT_sA, gD_sB, gN_sB, gI_sB, gJ_sB, gR_sB, gA_sB, gB_sB, gT_sB, zx_il0, zx_il1, zx_il2, zx_il3, zx_ll0, zx_ll1, zx_ll2, zx_ll3, zx_al0, zx_al1, zx_al2, zx_al3, e_has, e_bA, e_mn, e_mx, e_pcI, e_pcL, e_low, zml_83, zg83_0, zb83_0, zg83_30, zb83_30, zb83_36, zg83_57, zb83_57, zg83_63, zb83_63, zg83_94, zb83_94, zg83_95, zb83_95, zg83_128, zb83_128, zg83_164, zb83_164, zg83_165, zb83_165, zg83_167, zb83_167, zg83_179, zb83_179, zg83_180, zb83_180, zg83_189, zb83_189, zmc_81, zms_81, zow_81, zhd_81, zmc_82, zms_82, zow_82, zhd_82, zmc_83, zms_83, zow_83, zhd_83, ↓gf_1_0, ↓gf_1_1, ↓gv_1, ↓pp_1_1, ↓pp_1_2, show ztg 110 18 = 128 from rfl, show ztg 130 37 = 167 from rfl, show ztg 136 31 = 167 from rfl, show ztg 141 26 = 167 from rfl, show ztg 157 7 = 164 from rfl, show ztg 161 4 = 165 from rfl, show ztg 171 8 = 179 from rfl, show ztg 176 4 = 180 from rfl, show ztg 186 (-150) = 36 from rfl, show ztg 26 4 = 30 from rfl, show ztg 39 150 = 189 from rfl, show ztg 45 144 = 189 from rfl, show ztg 50 7 = 57 from rfl, show ztg 54 9 = 63 from rfl, show ztg 78 16 = 94 from rfl, show ztg 87 7 = 94 from rfl, show ztg 91 4 = 95 from rfl, show ztg 99 29 = 128 from rfl, LTown_g (CT_L (QC_T h)), LTown_d (CT_L (QC_T h)), LTown_r6 (CT_L (QC_T h)), LTown_k6 (CT_L (QC_T h)), LTown_n6 (CT_L (QC_T h)), LTown_r7 (CT_L (QC_T h)), LTown_k7 (CT_L (QC_T h)), LTown_n7 (CT_L (QC_T h)), LTown_r8 (CT_L (QC_T h)), LTown_k8 (CT_L (QC_T h)), LTown_n8 (CT_L (QC_T h)), LTown_r9 (CT_L (QC_T h)), LTown_k9 (CT_L (QC_T h)), LTown_n9 (CT_L (QC_T h)), LTown_r10 (CT_L (QC_T h)), LTown_k10 (CT_L (QC_T h)), LTown_n10 (CT_L (QC_T h)), LTown_r11 (CT_L (QC_T h)), LTown_k11 (CT_L (QC_T h)), LTown_n11 (CT_L (QC_T h)), LTown_r12 (CT_L (QC_T h)), LTown_k12 (CT_L (QC_T h)), LTown_n12 (CT_L (QC_T h)), LTown_r13 (CT_L (QC_T h)), LTown_k13 (CT_L (QC_T h)), LTown_n13 (CT_L (QC_T h)), LTown_r14 (CT_L (QC_T h)), LTown_k14 (CT_L (QC_T h)), LTown_n14 (CT_L (QC_T h)), LTown_r15 (CT_L (QC_T h)), LTown_k15 (CT_L (QC_T h)), LTown_n15 (CT_L (QC_T h)), LTown_r16 (CT_L (QC_T h)), LTown_k16 (CT_L (QC_T h)), LTown_n16 (CT_L (QC_T h)), LTown_r17 (CT_L (QC_T h)), LTown_k17 (CT_L (QC_T h)), LTown_n17 (CT_L (QC_T h)), LTown_r18 (CT_L (QC_T h)), LTown_k18 (CT_L (QC_T h)), LTown_n18 (CT_L (QC_T h)), LChoices_d hlC, LChoices_r3 hlC, LChoices_k3 hlC, LChoices_n3 hlC, LChoices_r4 hlC, LChoices_k4 hlC, LChoices_n4 hlC, LChoices_r5 hlC, LChoices_k5 hlC, LChoices_n5 hlC, hf.1]
  try simp (disch := omega) only [ii_lt, ii_le, ii_eq, ii_eq0, ii_lt0, ii_0lt, ii_le0, ii_0le, i_inT, i_natN, i_nat, ia_div, ia_rem, hs_ofI, i_1shl, i_or, i_bit, true_and, and_true, not_true_eq_false, not_false_eq_true, true_implies, false_implies, implies_true, Int.reduceLT, Int.reduceLE, Int.reduceEq, Int.reduceNeg, Int.toNat_natCast, Int.reduceToNat, Nat.reduceLeDiff, Nat.reduceAdd, tn_2, tn_2p, tn_48, tn_48r, tn_3, tn_3p, tn_3q, tn_p1, tn_d2, tn_12, ia_add, ia_sub, ia_mul]
  rw [show ((2 ^ cm T r : Nat) : Int) - 1 = ((2 ^ cm T r - 1 : Nat) : Int) from by omega]
  have s0 : SI T r S σ (sI (sI σ 59 1 (Int32.ofInt (-1))) 59 2 (Int32.ofInt (-1))) none := by
    obtain ⟨h3, h4, s, h5, h6⟩ := hf
    refine ⟨fz_trans (fz_sI (by omega)) (fz_sI (by omega)), rfl, ⟨?_, h4, s, h5, ?_⟩, ?_, ?_⟩
    · rw [gI_sI, if_neg (by omega), gI_sI, if_neg (by omega)]
      exact h3
    · rw [gI_sI, if_neg (by omega), gI_sI, if_neg (by omega)]
      exact h6
    · rw [gI_sI, if_neg (by omega), gI_sI, if_pos ⟨rfl, rfl⟩]
      rfl
    · rw [gI_sI, if_pos ⟨rfl, rfl⟩]
      rfl
  generalize sI (sI σ 59 1 (Int32.ofInt (-1))) 59 2 (Int32.ofInt (-1)) = σ1 at s0 ⊢
  refine u_opens (QC_fz s0.1 (by omega) h) s0.2.2.1 (by omega) ?_
  intro x s hs
  have s1 := SI_op (x := x) s0 hs
  generalize sI (sB σ1 62 x) 59 6 (Int32.ofInt s) = σ2 at s1 ⊢
  rw [eP]
  simp only [zx_iconst, zx_bipush, zx_sipush, zx_lconst, zx_ldc, zx_ldcS, zx_ldc_w, zx_ldc2_w, zx_iload, zx_lload, zx_aload, zx_istore_n, zx_istore, zx_lstore_n, zx_lstore, zx_astore_n, zx_astore, zx_iinc, zx_iadd, zx_isub, zx_imul, zx_iand, zx_ior, zx_ixor, zx_ishl, zx_ishr, zx_iushr, zx_idiv, zx_irem, zx_ineg, zx_ladd, zx_lsub, zx_land, zx_lor, zx_lxor, zx_lneg, zx_lshl, zx_lushr, zx_i2l, zx_l2i, zx_lcmp, zx_dup, zx_dup2, zx_pop, zx_goto, zx_if_eq, zx_if_ne, zx_if_lt, zx_if_ge, zx_if_gt, zx_if_le, zx_icmp_eq, zx_icmp_ne, zx_icmp_lt, zx_icmp_ge, zx_icmp_gt, zx_icmp_le, zx_getfield, zx_putfield, zx_iaload, zx_laload, zx_aaload, zx_iastore, zx_lastore, zx_arraylength, zx_ireturn, zx_lreturn, zx_areturn, zx_return, zx_athrow, zx_static0, zx_static1, zx_virt1, zx_static2, zx_virt2, zx_static3, zx_virt3, zx_static4, zx_virt4, zx_static5, zx_virt5, zx_static6, zx_virt6, zx_static7, zx_virt7, zx_cpI, zx_cpL, ↓cpI, ↓cpL, zx_slen, zx_schr, zx_tsw, zx_spec3, new_X, zx_new1, zrun_nil, zrun_cons, ↓zgi_h, ↓zgi_n, ↓zgl_h, ↓zgl_n, ↓zgr_h, ↓zgr_n, zset1, zset2, zins_nil, zins_c, f3, cat_i, cat_l, cat_r, List.filter_cons, List.filter_nil, Bool.false_eq_true, l_of0, lv_args, Nat.reduceBEq, Nat.reduceAdd, Nat.reduceLeDiff, Nat.reduceLT, Bool.not_true, Bool.not_false, Bool.and_true, Bool.true_and, Bool.and_false, Bool.false_and, Nat.reduceEqDiff, reduceIte, List.contains_cons, List.contains_nil, Bool.or_false, Bool.or_true, Bool.false_or, Bool.true_or, Fin.isValue, Fin.val_zero, Fin.val_one, Fin.val_two, Fin.reduceFinMk, Option.toList_some, Option.toList_none, List.nil_append, List.cons_append, zwt_nil, zwt_i, zwt_l, zwt_r, zthr_nil, List.isEmpty_nil, zcE, ↓ar_k, lgc0, true_and, and_true, true_implies, implies_true, false_implies, forall_const, i_len, ob_0, ob_1, ↓bI_01, bI_0, not_true_eq_false, not_false_eq_true, Bool.not_eq_false, Bool.not_eq_true, ia_add, ia_sub, ia_mul, ia_neg, ↓ldI, ↓ldL, zaI_c, zaL_c, ↓zlen_I, ↓zlen_L, ↓stI, ↓stL, gD_sI, gN_sI, gI_sI, gJ_sI, gR_sI, gA_sI, gB_sI, gT_sI, gD_sJ, gN_sJ, gI_sJ, gJ_sJ, gR_sJ, gA_sJ, gB_sJ, gT_sJ, gD_sR, gN_sR, gI_sR, gJ_sR, gR_sR, gA_sR, gB_sR, gT_sR, gD_sA, gN_sA, gI_sA, gJ_sA, gR_sA, gA_sA, gB_sA, gT_sA, gD_sB, gN_sB, gI_sB, gJ_sB, gR_sB, gA_sB, gB_sB, gT_sB, zx_il0, zx_il1, zx_il2, zx_il3, zx_ll0, zx_ll1, zx_ll2, zx_ll3, zx_al0, zx_al1, zx_al2, zx_al3, e_has, e_bA, e_mn, e_mx, e_pcI, e_pcL, e_low, zml_83, zg83_0, zb83_0, zg83_30, zb83_30, zb83_36, zg83_57, zb83_57, zg83_63, zb83_63, zg83_94, zb83_94, zg83_95, zb83_95, zg83_128, zb83_128, zg83_164, zb83_164, zg83_165, zb83_165, zg83_167, zb83_167, zg83_179, zb83_179, zg83_180, zb83_180, zg83_189, zb83_189, zmc_81, zms_81, zow_81, zhd_81, zmc_82, zms_82, zow_82, zhd_82, zmc_83, zms_83, zow_83, zhd_83, ↓gf_1_0, ↓gf_1_1, ↓gv_1, ↓pp_1_1, ↓pp_1_2, show ztg 110 18 = 128 from rfl, show ztg 130 37 = 167 from rfl, show ztg 136 31 = 167 from rfl, show ztg 141 26 = 167 from rfl, show ztg 157 7 = 164 from rfl, show ztg 161 4 = 165 from rfl, show ztg 171 8 = 179 from rfl, show ztg 176 4 = 180 from rfl, show ztg 186 (-150) = 36 from rfl, show ztg 26 4 = 30 from rfl, show ztg 39 150 = 189 from rfl, show ztg 45 144 = 189 from rfl, show ztg 50 7 = 57 from rfl, show ztg 54 9 = 63 from rfl, show ztg 78 16 = 94 from rfl, show ztg 87 7 = 94 from rfl, show ztg 91 4 = 95 from rfl, show ztg 99 29 = 128 from rfl]
  refine ⟨fun c1 => ?_, fun c1 => ?_⟩
  · have key : ∀ i : Nat, i ≤ 2 ^ cm T r → ∀ (bits : Nat) (τ : zS), i ≤ bits → bits ≤ 2 ^ cm T r → SI T r S σ τ (bw P S bits) → zfp zP (zcall zP 83) 83 Q 36 [(0, .ref 59), (1, .ref t), (2, .ref 52), (3, .int (Int32.ofInt ((2 ^ cm T r : Nat) : Int))), (4, .int (Int32.ofInt bits)), (5, .int (Int32.ofInt i))] [] (hOf τ) 0 0 := by
      refine bk _ ?_
      intro i hi ih bits τ hib hbm hs
      have body : bits < 2 ^ cm T r → ∀ k q, bits = 2 ^ k * q → bits + 2 ^ k ≤ 2 ^ cm T r → k ≤ 14 → zfp zP (zcall zP 83) 83 Q 63 [(0, .ref 59), (1, .ref t), (2, .ref 52), (3, .int (Int32.ofInt ((2 ^ cm T r : Nat) : Int))), (4, .int (Int32.ofInt bits)), (5, .int (Int32.ofInt i))] [.int (Int32.ofInt ((2 ^ k : Nat) : Int))] (hOf τ) 0 0 := by
        intro hb k q hq hk hk14
        have pk0 := Nat.two_pow_pos k
        have domS : ∀ x, bits ≤ x → x < bits + 2 ^ k → S bits ≤ S x := by
          intro x h1 h2
          have := S_mono (2 ^ k * q) (2 ^ k * q + (x - bits)) (sub_l (by omega))
          rw [← hq, show bits + (x - bits) = x from by omega] at this
          exact this
        have domP : ∀ x, bits ≤ x → x < bits + 2 ^ k → P x = true → P (bits ||| (2 ^ k - 1)) = true := by
          intro x h1 h2
          have := P_mono (2 ^ k * q + (x - bits)) (2 ^ k * q ||| (2 ^ k - 1)) (sub_r (by omega))
          rw [← hq, show bits + (x - bits) = x from by omega] at this
          exact this
        have t167 : ∀ (hop : Bool) (τ : zS), SI T r S σ τ (bw P S (bits + if hop = true then 2 ^ k else 1)) → zfp zP (zcall zP 83) 83 Q 167 [(0, .ref 59), (1, .ref t), (2, .ref 52), (3, .int (Int32.ofInt ((2 ^ cm T r : Nat) : Int))), (4, .int (Int32.ofInt bits)), (5, .int (Int32.ofInt i)), (6, .int (Int32.ofInt ((2 ^ k : Nat) : Int))), (8, .int (bI hop))] [] (hOf τ) 0 0 := by
          intro hop τ hs
          rw [zg83_167]
          simp only [zx_iconst, zx_bipush, zx_sipush, zx_lconst, zx_ldc, zx_ldcS, zx_ldc_w, zx_ldc2_w, zx_iload, zx_lload, zx_aload, zx_istore_n, zx_istore, zx_lstore_n, zx_lstore, zx_astore_n, zx_astore, zx_iinc, zx_iadd, zx_isub, zx_imul, zx_iand, zx_ior, zx_ixor, zx_ishl, zx_ishr, zx_iushr, zx_idiv, zx_irem, zx_ineg, zx_ladd, zx_lsub, zx_land, zx_lor, zx_lxor, zx_lneg, zx_lshl, zx_lushr, zx_i2l, zx_l2i, zx_lcmp, zx_dup, zx_dup2, zx_pop, zx_goto, zx_if_eq, zx_if_ne, zx_if_lt, zx_if_ge, zx_if_gt, zx_if_le, zx_icmp_eq, zx_icmp_ne, zx_icmp_lt, zx_icmp_ge, zx_icmp_gt, zx_icmp_le, zx_getfield, zx_putfield, zx_iaload, zx_laload, zx_aaload, zx_iastore, zx_lastore, zx_arraylength, zx_ireturn, zx_lreturn, zx_areturn, zx_return, zx_athrow, zx_static0, zx_static1, zx_virt1, zx_static2, zx_virt2, zx_static3, zx_virt3, zx_static4, zx_virt4, zx_static5, zx_virt5, zx_static6, zx_virt6, zx_static7, zx_virt7, zx_cpI, zx_cpL, ↓cpI, ↓cpL, zx_slen, zx_schr, zx_tsw, zx_spec3, new_X, zx_new1, zrun_nil, zrun_cons, ↓zgi_h, ↓zgi_n, ↓zgl_h, ↓zgl_n, ↓zgr_h, ↓zgr_n, zset1, zset2, zins_nil, zins_c, f3, cat_i, cat_l, cat_r, List.filter_cons, List.filter_nil, Bool.false_eq_true, l_of0, lv_args, Nat.reduceBEq, Nat.reduceAdd, Nat.reduceLeDiff, Nat.reduceLT, Bool.not_true, Bool.not_false, Bool.and_true, Bool.true_and, Bool.and_false, Bool.false_and, Nat.reduceEqDiff, reduceIte, List.contains_cons, List.contains_nil, Bool.or_false, Bool.or_true, Bool.false_or, Bool.true_or, Fin.isValue, Fin.val_zero, Fin.val_one, Fin.val_two, Fin.reduceFinMk, Option.toList_some, Option.toList_none, List.nil_append, List.cons_append, zwt_nil, zwt_i, zwt_l, zwt_r, zthr_nil, List.isEmpty_nil, zcE, ↓ar_k, lgc0, true_and, and_true, true_implies, implies_true, false_implies, forall_const, i_len, ob_0, ob_1, ↓bI_01, bI_0, not_true_eq_false, not_false_eq_true, Bool.not_eq_false, Bool.not_eq_true, ia_add, ia_sub, ia_mul, ia_neg, ↓ldI, ↓ldL, zaI_c, zaL_c, ↓zlen_I, ↓zlen_L, ↓stI, ↓stL, gD_sI, gN_sI, gI_sI, gJ_sI, gR_sI, gA_sI, gB_sI, gT_sI, gD_sJ, gN_sJ, gI_sJ, gJ_sJ, gR_sJ, gA_sJ, gB_sJ, gT_sJ, gD_sR, gN_sR, gI_sR, gJ_sR, gR_sR, gA_sR, gB_sR, gT_sR, gD_sA, gN_sA, gI_sA, gJ_sA, gR_sA, gA_sA, gB_sA, gT_sA, gD_sB, gN_sB, gI_sB, gJ_sB, gR_sB, gA_sB, gB_sB, gT_sB, zx_il0, zx_il1, zx_il2, zx_il3, zx_ll0, zx_ll1, zx_ll2, zx_ll3, zx_al0, zx_al1, zx_al2, zx_al3, e_has, e_bA, e_mn, e_mx, e_pcI, e_pcL, e_low, zml_83, zg83_0, zb83_0, zg83_30, zb83_30, zb83_36, zg83_57, zb83_57, zg83_63, zb83_63, zg83_94, zb83_94, zg83_95, zb83_95, zg83_128, zb83_128, zg83_164, zb83_164, zg83_165, zb83_165, zg83_167, zb83_167, zg83_179, zb83_179, zg83_180, zb83_180, zg83_189, zb83_189, zmc_81, zms_81, zow_81, zhd_81, zmc_82, zms_82, zow_82, zhd_82, zmc_83, zms_83, zow_83, zhd_83, ↓gf_1_0, ↓gf_1_1, ↓gv_1, ↓pp_1_1, ↓pp_1_2, show ztg 110 18 = 128 from rfl, show ztg 130 37 = 167 from rfl, show ztg 136 31 = 167 from rfl, show ztg 141 26 = 167 from rfl, show ztg 157 7 = 164 from rfl, show ztg 161 4 = 165 from rfl, show ztg 171 8 = 179 from rfl, show ztg 176 4 = 180 from rfl, show ztg 186 (-150) = 36 from rfl, show ztg 26 4 = 30 from rfl, show ztg 39 150 = 189 from rfl, show ztg 45 144 = 189 from rfl, show ztg 50 7 = 57 from rfl, show ztg 54 9 = 63 from rfl, show ztg 78 16 = 94 from rfl, show ztg 87 7 = 94 from rfl, show ztg 91 4 = 95 from rfl, show ztg 99 29 = 128 from rfl]
          cases hop with
          | true =>
            refine ⟨fun z => (by cases z), fun _ => ?_⟩
            exact zjf rfl (ih (by omega) (bits + 2 ^ k) τ (by omega) (by omega) hs)
          | false =>
            refine ⟨fun _ => ?_, fun z => by cases z⟩
            exact zjf rfl (ih (by omega) (bits + 1) τ (by omega) (by omega) hs)
        have t128 : ∀ (hop : Bool) (τ : zS), (hop = true → SI T r S σ τ (bw P S (bits + 2 ^ k))) → (hop = false → P bits = false ∧ SI T r S σ τ (bw P S bits)) → zfp zP (zcall zP 83) 83 Q 128 [(0, .ref 59), (1, .ref t), (2, .ref 52), (3, .int (Int32.ofInt ((2 ^ cm T r : Nat) : Int))), (4, .int (Int32.ofInt bits)), (5, .int (Int32.ofInt i)), (6, .int (Int32.ofInt ((2 ^ k : Nat) : Int))), (8, .int (bI hop))] [] (hOf τ) 0 0 := by
          intro hop τ h1 h2
          have lCt : LChoices τ := by
            cases hop with
            | true => exact LA_Choices (LA_fz (h1 rfl).1 (QC_A h))
            | false => exact LA_Choices (LA_fz (h2 rfl).2.1 (QC_A h))
          rw [zg83_128]
          simp only [zx_iconst, zx_bipush, zx_sipush, zx_lconst, zx_ldc, zx_ldcS, zx_ldc_w, zx_ldc2_w, zx_iload, zx_lload, zx_aload, zx_istore_n, zx_istore, zx_lstore_n, zx_lstore, zx_astore_n, zx_astore, zx_iinc, zx_iadd, zx_isub, zx_imul, zx_iand, zx_ior, zx_ixor, zx_ishl, zx_ishr, zx_iushr, zx_idiv, zx_irem, zx_ineg, zx_ladd, zx_lsub, zx_land, zx_lor, zx_lxor, zx_lneg, zx_lshl, zx_lushr, zx_i2l, zx_l2i, zx_lcmp, zx_dup, zx_dup2, zx_pop, zx_goto, zx_if_eq, zx_if_ne, zx_if_lt, zx_if_ge, zx_if_gt, zx_if_le, zx_icmp_eq, zx_icmp_ne, zx_icmp_lt, zx_icmp_ge, zx_icmp_gt, zx_icmp_le, zx_getfield, zx_putfield, zx_iaload, zx_laload, zx_aaload, zx_iastore, zx_lastore, zx_arraylength, zx_ireturn, zx_lreturn, zx_areturn, zx_return, zx_athrow, zx_static0, zx_static1, zx_virt1, zx_static2, zx_virt2, zx_static3, zx_virt3, zx_static4, zx_virt4, zx_static5, zx_virt5, zx_static6, zx_virt6, zx_static7, zx_virt7, zx_cpI, zx_cpL, ↓cpI, ↓cpL, zx_slen, zx_schr, zx_tsw, zx_spec3, new_X, zx_new1, zrun_nil, zrun_cons, ↓zgi_h, ↓zgi_n, ↓zgl_h, ↓zgl_n, ↓zgr_h, ↓zgr_n, zset1, zset2, zins_nil, zins_c, f3, cat_i, cat_l, cat_r, List.filter_cons, List.filter_nil, Bool.false_eq_true, l_of0, lv_args, Nat.reduceBEq, Nat.reduceAdd, Nat.reduceLeDiff, Nat.reduceLT, Bool.not_true, Bool.not_false, Bool.and_true, Bool.true_and, Bool.and_false, Bool.false_and, Nat.reduceEqDiff, reduceIte, List.contains_cons, List.contains_nil, Bool.or_false, Bool.or_true, Bool.false_or, Bool.true_or, Fin.isValue, Fin.val_zero, Fin.val_one, Fin.val_two, Fin.reduceFinMk, Option.toList_some, Option.toList_none, List.nil_append, List.cons_append, zwt_nil, zwt_i, zwt_l, zwt_r, zthr_nil, List.isEmpty_nil, zcE, ↓ar_k, lgc0, true_and, and_true, true_implies, implies_true, false_implies, forall_const, i_len, ob_0, ob_1, ↓bI_01, bI_0, not_true_eq_false, not_false_eq_true, Bool.not_eq_false, Bool.not_eq_true, ia_add, ia_sub, ia_mul, ia_neg, ↓ldI, ↓ldL, zaI_c, zaL_c, ↓zlen_I, ↓zlen_L, ↓stI, ↓stL, gD_sI, gN_sI, gI_sI, gJ_sI, gR_sI, gA_sI, gB_sI, gT_sI, gD_sJ, gN_sJ, gI_sJ, gJ_sJ, gR_sJ, gA_sJ, gB_sJ, gT_sJ, gD_sR, gN_sR, gI_sR, gJ_sR, gR_sR, gA_sR, gB_sR, gT_sR, gD_sA, gN_sA, gI_sA, gJ_sA, gR_sA, gA_sA, gB_sA, gT_sA, gD_sB, gN_sB, gI_sB, gJ_sB, gR_sB, gA_sB, gB_sB, gT_sB, zx_il0, zx_il1, zx_il2, zx_il3, zx_ll0, zx_ll1, zx_ll2, zx_ll3, zx_al0, zx_al1, zx_al2, zx_al3, e_has, e_bA, e_mn, e_mx, e_pcI, e_pcL, e_low, zml_83, zg83_0, zb83_0, zg83_30, zb83_30, zb83_36, zg83_57, zb83_57, zg83_63, zb83_63, zg83_94, zb83_94, zg83_95, zb83_95, zg83_128, zb83_128, zg83_164, zb83_164, zg83_165, zb83_165, zb83_167, zg83_179, zb83_179, zg83_180, zb83_180, zg83_189, zb83_189, zmc_81, zms_81, zow_81, zhd_81, zmc_82, zms_82, zow_82, zhd_82, zmc_83, zms_83, zow_83, zhd_83, ↓gf_1_0, ↓gf_1_1, ↓gv_1, ↓pp_1_1, ↓pp_1_2, show ztg 110 18 = 128 from rfl, show ztg 130 37 = 167 from rfl, show ztg 136 31 = 167 from rfl, show ztg 141 26 = 167 from rfl, show ztg 157 7 = 164 from rfl, show ztg 161 4 = 165 from rfl, show ztg 171 8 = 179 from rfl, show ztg 176 4 = 180 from rfl, show ztg 186 (-150) = 36 from rfl, show ztg 26 4 = 30 from rfl, show ztg 39 150 = 189 from rfl, show ztg 45 144 = 189 from rfl, show ztg 50 7 = 57 from rfl, show ztg 54 9 = 63 from rfl, show ztg 78 16 = 94 from rfl, show ztg 87 7 = 94 from rfl, show ztg 91 4 = 95 from rfl, show ztg 99 29 = 128 from rfl, LChoices_d lCt, LChoices_r3 lCt, LChoices_k3 lCt, LChoices_n3 lCt, LChoices_r4 lCt, LChoices_k4 lCt, LChoices_n4 lCt, LChoices_r5 lCt, LChoices_k5 lCt, LChoices_n5 lCt]
          cases hop with
          | true =>
            refine ⟨fun _ => t167 true τ (h1 rfl), fun z => by cases z⟩
          | false =>
            obtain ⟨h3, h4⟩ := h2 rfl
            have hskip : bw P S (bits + 1) = bw P S bits := bw_skip (by omega) (fun x k1 k2 k3 => by
              rw [show x = bits from by omega, h3] at k3
              cases k3)
            have go : zfp zP (zcall zP 83) 83 Q 167 [(0, .ref 59), (1, .ref t), (2, .ref 52), (3, .int (Int32.ofInt ((2 ^ cm T r : Nat) : Int))), (4, .int (Int32.ofInt bits)), (5, .int (Int32.ofInt i)), (6, .int (Int32.ofInt ((2 ^ k : Nat) : Int))), (8, .int (bI false))] [] (hOf τ) 0 0 := t167 false τ (by
              show SI T r S σ τ (bw P S (bits + 1))
              rw [hskip]
              exact h4)
            refine ⟨fun z => (by cases z), fun _ => ?_⟩
            have p14k : (2 : Nat) ^ k ≤ 16384 := Nat.pow_le_pow_right (n := 2) (by omega) hk14
            try simp (disch := omega) only [ii_lt, ii_le, ii_eq, ii_eq0, ii_lt0, ii_0lt, ii_le0, ii_0le, i_inT, i_natN, i_nat, ia_div, ia_rem, hs_ofI, i_1shl, i_or, i_bit, true_and, and_true, not_true_eq_false, not_false_eq_true, true_implies, false_implies, implies_true, Int.reduceLT, Int.reduceLE, Int.reduceEq, Int.reduceNeg, Int.toNat_natCast, Int.reduceToNat, Nat.reduceLeDiff, Nat.reduceAdd, tn_2, tn_2p, tn_48, tn_48r, tn_3, tn_3p, tn_3q, tn_p1, tn_d2, tn_12, ia_add, ia_sub, ia_mul]
            refine ⟨fun _ => go, fun c2 => ⟨fun _ => go, fun c3 => ?_⟩⟩
            rw [show ((2 ^ k : Nat) : Int) - 1 = ((2 ^ k - 1 : Nat) : Int) from by omega, i_or]
            have hor : bits ||| (2 ^ k - 1) < 2147483648 := by
              have : bits ||| (2 ^ k - 1) < 2 ^ 15 := Nat.or_lt_two_pow (by omega) (by omega)
              omega
            refine u_opens (QC_fz h4.1 (by omega) h) h4.2.2.1 hor ?_
            intro x2 s2 hs2
            have s4 := SI_op (x := x2) h4 hs2
            generalize sI (sB τ 62 x2) 59 6 (Int32.ofInt s2) = τ2 at s4 ⊢
            rw [eP]
            simp only [zx_iconst, zx_bipush, zx_sipush, zx_lconst, zx_ldc, zx_ldcS, zx_ldc_w, zx_ldc2_w, zx_iload, zx_lload, zx_aload, zx_istore_n, zx_istore, zx_lstore_n, zx_lstore, zx_astore_n, zx_astore, zx_iinc, zx_iadd, zx_isub, zx_imul, zx_iand, zx_ior, zx_ixor, zx_ishl, zx_ishr, zx_iushr, zx_idiv, zx_irem, zx_ineg, zx_ladd, zx_lsub, zx_land, zx_lor, zx_lxor, zx_lneg, zx_lshl, zx_lushr, zx_i2l, zx_l2i, zx_lcmp, zx_dup, zx_dup2, zx_pop, zx_goto, zx_if_eq, zx_if_ne, zx_if_lt, zx_if_ge, zx_if_gt, zx_if_le, zx_icmp_eq, zx_icmp_ne, zx_icmp_lt, zx_icmp_ge, zx_icmp_gt, zx_icmp_le, zx_getfield, zx_putfield, zx_iaload, zx_laload, zx_aaload, zx_iastore, zx_lastore, zx_arraylength, zx_ireturn, zx_lreturn, zx_areturn, zx_return, zx_athrow, zx_static0, zx_static1, zx_virt1, zx_static2, zx_virt2, zx_static3, zx_virt3, zx_static4, zx_virt4, zx_static5, zx_virt5, zx_static6, zx_virt6, zx_static7, zx_virt7, zx_cpI, zx_cpL, ↓cpI, ↓cpL, zx_slen, zx_schr, zx_tsw, zx_spec3, new_X, zx_new1, zrun_nil, zrun_cons, ↓zgi_h, ↓zgi_n, ↓zgl_h, ↓zgl_n, ↓zgr_h, ↓zgr_n, zset1, zset2, zins_nil, zins_c, f3, cat_i, cat_l, cat_r, List.filter_cons, List.filter_nil, Bool.false_eq_true, l_of0, lv_args, Nat.reduceBEq, Nat.reduceAdd, Nat.reduceLeDiff, Nat.reduceLT, Bool.not_true, Bool.not_false, Bool.and_true, Bool.true_and, Bool.and_false, Bool.false_and, Nat.reduceEqDiff, reduceIte, List.contains_cons, List.contains_nil, Bool.or_false, Bool.or_true, Bool.false_or, Bool.true_or, Fin.isValue, Fin.val_zero, Fin.val_one, Fin.val_two, Fin.reduceFinMk, Option.toList_some, Option.toList_none, List.nil_append, List.cons_append, zwt_nil, zwt_i, zwt_l, zwt_r, zthr_nil, List.isEmpty_nil, zcE, ↓ar_k, lgc0, true_and, and_true, true_implies, implies_true, false_implies, forall_const, i_len, ob_0, ob_1, ↓bI_01, bI_0, not_true_eq_false, not_false_eq_true, Bool.not_eq_false, Bool.not_eq_true, ia_add, ia_sub, ia_mul, ia_neg, ↓ldI, ↓ldL, zaI_c, zaL_c, ↓zlen_I, ↓zlen_L, ↓stI, ↓stL, gD_sI, gN_sI, gI_sI, gJ_sI, gR_sI, gA_sI, gB_sI, gT_sI, gD_sJ, gN_sJ, gI_sJ, gJ_sJ, gR_sJ, gA_sJ, gB_sJ, gT_sJ, gD_sR, gN_sR, gI_sR, gJ_sR, gR_sR, gA_sR, gB_sR, gT_sR, gD_sA, gN_sA, gI_sA, gJ_sA, gR_sA, gA_sA, gB_sA, gT_sA, gD_sB, gN_sB, gI_sB, gJ_sB, gR_sB, gA_sB, gB_sB, gT_sB, zx_il0, zx_il1, zx_il2, zx_il3, zx_ll0, zx_ll1, zx_ll2, zx_ll3, zx_al0, zx_al1, zx_al2, zx_al3, e_has, e_bA, e_mn, e_mx, e_pcI, e_pcL, e_low, zml_83, zg83_0, zb83_0, zg83_30, zb83_30, zb83_36, zg83_57, zb83_57, zg83_63, zb83_63, zg83_94, zb83_94, zg83_95, zb83_95, zg83_128, zb83_128, zg83_164, zb83_164, zg83_165, zb83_165, zb83_167, zg83_179, zb83_179, zg83_180, zb83_180, zg83_189, zb83_189, zmc_81, zms_81, zow_81, zhd_81, zmc_82, zms_82, zow_82, zhd_82, zmc_83, zms_83, zow_83, zhd_83, ↓gf_1_0, ↓gf_1_1, ↓gv_1, ↓pp_1_1, ↓pp_1_2, show ztg 110 18 = 128 from rfl, show ztg 130 37 = 167 from rfl, show ztg 136 31 = 167 from rfl, show ztg 141 26 = 167 from rfl, show ztg 157 7 = 164 from rfl, show ztg 161 4 = 165 from rfl, show ztg 171 8 = 179 from rfl, show ztg 176 4 = 180 from rfl, show ztg 186 (-150) = 36 from rfl, show ztg 26 4 = 30 from rfl, show ztg 39 150 = 189 from rfl, show ztg 45 144 = 189 from rfl, show ztg 50 7 = 57 from rfl, show ztg 54 9 = 63 from rfl, show ztg 78 16 = 94 from rfl, show ztg 87 7 = 94 from rfl, show ztg 91 4 = 95 from rfl, show ztg 99 29 = 128 from rfl]
            refine ⟨fun c4 => ?_, fun c4 => ?_⟩
            · refine t167 false τ2 ?_
              show SI T r S σ τ2 (bw P S (bits + 1))
              rw [hskip]
              exact s4
            · refine t167 true τ2 ?_
              show SI T r S σ τ2 (bw P S (bits + 2 ^ k))
              rw [bw_skip (n := bits) (by omega) (fun x k1 k2 k3 => by
                have := domP x k1 k2 k3
                rw [c4] at this
                cases this)]
              exact s4
        have t95 : ∀ hop : Bool, (hop = true → ∃ b, bw P S bits = some b ∧ S b ≤ S bits) → (hop = false → ∀ b, bw P S bits = some b → S bits < S b) → zfp zP (zcall zP 83) 83 Q 95 [(0, .ref 59), (1, .ref t), (2, .ref 52), (3, .int (Int32.ofInt ((2 ^ cm T r : Nat) : Int))), (4, .int (Int32.ofInt bits)), (5, .int (Int32.ofInt i)), (6, .int (Int32.ofInt ((2 ^ k : Nat) : Int))), (7, .int (Int32.ofInt (S bits)))] [.int (bI hop)] (hOf τ) 0 0 := by
          intro hop h1 h2
          have lCt : LChoices τ := LA_Choices (LA_fz hs.1 (QC_A h))
          rw [zg83_95]
          simp only [zx_iconst, zx_bipush, zx_sipush, zx_lconst, zx_ldc, zx_ldcS, zx_ldc_w, zx_ldc2_w, zx_iload, zx_lload, zx_aload, zx_istore_n, zx_istore, zx_lstore_n, zx_lstore, zx_astore_n, zx_astore, zx_iinc, zx_iadd, zx_isub, zx_imul, zx_iand, zx_ior, zx_ixor, zx_ishl, zx_ishr, zx_iushr, zx_idiv, zx_irem, zx_ineg, zx_ladd, zx_lsub, zx_land, zx_lor, zx_lxor, zx_lneg, zx_lshl, zx_lushr, zx_i2l, zx_l2i, zx_lcmp, zx_dup, zx_dup2, zx_pop, zx_goto, zx_if_eq, zx_if_ne, zx_if_lt, zx_if_ge, zx_if_gt, zx_if_le, zx_icmp_eq, zx_icmp_ne, zx_icmp_lt, zx_icmp_ge, zx_icmp_gt, zx_icmp_le, zx_getfield, zx_putfield, zx_iaload, zx_laload, zx_aaload, zx_iastore, zx_lastore, zx_arraylength, zx_ireturn, zx_lreturn, zx_areturn, zx_return, zx_athrow, zx_static0, zx_static1, zx_virt1, zx_static2, zx_virt2, zx_static3, zx_virt3, zx_static4, zx_virt4, zx_static5, zx_virt5, zx_static6, zx_virt6, zx_static7, zx_virt7, zx_cpI, zx_cpL, ↓cpI, ↓cpL, zx_slen, zx_schr, zx_tsw, zx_spec3, new_X, zx_new1, zrun_nil, zrun_cons, ↓zgi_h, ↓zgi_n, ↓zgl_h, ↓zgl_n, ↓zgr_h, ↓zgr_n, zset1, zset2, zins_nil, zins_c, f3, cat_i, cat_l, cat_r, List.filter_cons, List.filter_nil, Bool.false_eq_true, l_of0, lv_args, Nat.reduceBEq, Nat.reduceAdd, Nat.reduceLeDiff, Nat.reduceLT, Bool.not_true, Bool.not_false, Bool.and_true, Bool.true_and, Bool.and_false, Bool.false_and, Nat.reduceEqDiff, reduceIte, List.contains_cons, List.contains_nil, Bool.or_false, Bool.or_true, Bool.false_or, Bool.true_or, Fin.isValue, Fin.val_zero, Fin.val_one, Fin.val_two, Fin.reduceFinMk, Option.toList_some, Option.toList_none, List.nil_append, List.cons_append, zwt_nil, zwt_i, zwt_l, zwt_r, zthr_nil, List.isEmpty_nil, zcE, ↓ar_k, lgc0, true_and, and_true, true_implies, implies_true, false_implies, forall_const, i_len, ob_0, ob_1, ↓bI_01, bI_0, not_true_eq_false, not_false_eq_true, Bool.not_eq_false, Bool.not_eq_true, ia_add, ia_sub, ia_mul, ia_neg, ↓ldI, ↓ldL, zaI_c, zaL_c, ↓zlen_I, ↓zlen_L, ↓stI, ↓stL, gD_sI, gN_sI, gI_sI, gJ_sI, gR_sI, gA_sI, gB_sI, gT_sI, gD_sJ, gN_sJ, gI_sJ, gJ_sJ, gR_sJ, gA_sJ, gB_sJ, gT_sJ, gD_sR, gN_sR, gI_sR, gJ_sR, gR_sR, gA_sR, gB_sR, gT_sR, gD_sA, gN_sA, gI_sA, gJ_sA, gR_sA, gA_sA, gB_sA, gT_sA, gD_sB, gN_sB, gI_sB, gJ_sB, gR_sB, gA_sB, gB_sB, gT_sB, zx_il0, zx_il1, zx_il2, zx_il3, zx_ll0, zx_ll1, zx_ll2, zx_ll3, zx_al0, zx_al1, zx_al2, zx_al3, e_has, e_bA, e_mn, e_mx, e_pcI, e_pcL, e_low, zml_83, zg83_0, zb83_0, zg83_30, zb83_30, zb83_36, zg83_57, zb83_57, zg83_63, zb83_63, zg83_94, zb83_94, zg83_95, zb83_95, zb83_128, zg83_164, zb83_164, zg83_165, zb83_165, zg83_167, zb83_167, zg83_179, zb83_179, zg83_180, zb83_180, zg83_189, zb83_189, zmc_81, zms_81, zow_81, zhd_81, zmc_82, zms_82, zow_82, zhd_82, zmc_83, zms_83, zow_83, zhd_83, ↓gf_1_0, ↓gf_1_1, ↓gv_1, ↓pp_1_1, ↓pp_1_2, show ztg 110 18 = 128 from rfl, show ztg 130 37 = 167 from rfl, show ztg 136 31 = 167 from rfl, show ztg 141 26 = 167 from rfl, show ztg 157 7 = 164 from rfl, show ztg 161 4 = 165 from rfl, show ztg 171 8 = 179 from rfl, show ztg 176 4 = 180 from rfl, show ztg 186 (-150) = 36 from rfl, show ztg 26 4 = 30 from rfl, show ztg 39 150 = 189 from rfl, show ztg 45 144 = 189 from rfl, show ztg 50 7 = 57 from rfl, show ztg 54 9 = 63 from rfl, show ztg 78 16 = 94 from rfl, show ztg 87 7 = 94 from rfl, show ztg 91 4 = 95 from rfl, show ztg 99 29 = 128 from rfl, LChoices_d lCt, LChoices_r3 lCt, LChoices_k3 lCt, LChoices_n3 lCt, LChoices_r4 lCt, LChoices_k4 lCt, LChoices_n4 lCt, LChoices_r5 lCt, LChoices_k5 lCt, LChoices_n5 lCt]
          cases hop with
          | true =>
            refine ⟨fun _ => ?_, fun z => by cases z⟩
            refine zjf rfl (t128 true τ (fun _ => ?_) (fun z => by cases z))
            obtain ⟨b, h3, h4⟩ := h1 rfl
            obtain ⟨k1, k2, k3⟩ := bw_some h3
            rw [bw_skip (n := bits) (by omega) (fun x j1 j2 j3 => ⟨b, k1, k2, by have := domS x j1 j2; omega⟩)]
            exact hs
          | false =>
            refine ⟨fun z => (by cases z), fun _ => ?_⟩
            refine u_opens (QC_fz hs.1 (by omega) h) hs.2.2.1 (by omega) ?_
            intro x2 s2 hs2
            have s4 := SI_op (x := x2) hs hs2
            have lC2 := LA_Choices (LA_fz s4.1 (QC_A h))
            generalize sI (sB τ 62 x2) 59 6 (Int32.ofInt s2) = τ2 at s4 lC2 ⊢
            rw [eP]
            simp only [zx_iconst, zx_bipush, zx_sipush, zx_lconst, zx_ldc, zx_ldcS, zx_ldc_w, zx_ldc2_w, zx_iload, zx_lload, zx_aload, zx_istore_n, zx_istore, zx_lstore_n, zx_lstore, zx_astore_n, zx_astore, zx_iinc, zx_iadd, zx_isub, zx_imul, zx_iand, zx_ior, zx_ixor, zx_ishl, zx_ishr, zx_iushr, zx_idiv, zx_irem, zx_ineg, zx_ladd, zx_lsub, zx_land, zx_lor, zx_lxor, zx_lneg, zx_lshl, zx_lushr, zx_i2l, zx_l2i, zx_lcmp, zx_dup, zx_dup2, zx_pop, zx_goto, zx_if_eq, zx_if_ne, zx_if_lt, zx_if_ge, zx_if_gt, zx_if_le, zx_icmp_eq, zx_icmp_ne, zx_icmp_lt, zx_icmp_ge, zx_icmp_gt, zx_icmp_le, zx_getfield, zx_putfield, zx_iaload, zx_laload, zx_aaload, zx_iastore, zx_lastore, zx_arraylength, zx_ireturn, zx_lreturn, zx_areturn, zx_return, zx_athrow, zx_static0, zx_static1, zx_virt1, zx_static2, zx_virt2, zx_static3, zx_virt3, zx_static4, zx_virt4, zx_static5, zx_virt5, zx_static6, zx_virt6, zx_static7, zx_virt7, zx_cpI, zx_cpL, ↓cpI, ↓cpL, zx_slen, zx_schr, zx_tsw, zx_spec3, new_X, zx_new1, zrun_nil, zrun_cons, ↓zgi_h, ↓zgi_n, ↓zgl_h, ↓zgl_n, ↓zgr_h, ↓zgr_n, zset1, zset2, zins_nil, zins_c, f3, cat_i, cat_l, cat_r, List.filter_cons, List.filter_nil, Bool.false_eq_true, l_of0, lv_args, Nat.reduceBEq, Nat.reduceAdd, Nat.reduceLeDiff, Nat.reduceLT, Bool.not_true, Bool.not_false, Bool.and_true, Bool.true_and, Bool.and_false, Bool.false_and, Nat.reduceEqDiff, reduceIte, List.contains_cons, List.contains_nil, Bool.or_false, Bool.or_true, Bool.false_or, Bool.true_or, Fin.isValue, Fin.val_zero, Fin.val_one, Fin.val_two, Fin.reduceFinMk, Option.toList_some, Option.toList_none, List.nil_append, List.cons_append, zwt_nil, zwt_i, zwt_l, zwt_r, zthr_nil, List.isEmpty_nil, zcE, ↓ar_k, lgc0, true_and, and_true, true_implies, implies_true, false_implies, forall_const, i_len, ob_0, ob_1, ↓bI_01, bI_0, not_true_eq_false, not_false_eq_true, Bool.not_eq_false, Bool.not_eq_true, ia_add, ia_sub, ia_mul, ia_neg, ↓ldI, ↓ldL, zaI_c, zaL_c, ↓zlen_I, ↓zlen_L, ↓stI, ↓stL, gD_sI, gN_sI, gI_sI, gJ_sI, gR_sI, gA_sI, gB_sI, gT_sI, gD_sJ, gN_sJ, gI_sJ, gJ_sJ, gR_sJ, gA_sJ, gB_sJ, gT_sJ, gD_sR, gN_sR, gI_sR, gJ_sR, gR_sR, gA_sR, gB_sR, gT_sR, gD_sA, gN_sA, gI_sA, gJ_sA, gR_sA, gA_sA, gB_sA, gT_sA, gD_sB, gN_sB, gI_sB, gJ_sB, gR_sB, gA_sB, gB_sB, gT_sB, zx_il0, zx_il1, zx_il2, zx_il3, zx_ll0, zx_ll1, zx_ll2, zx_ll3, zx_al0, zx_al1, zx_al2, zx_al3, e_has, e_bA, e_mn, e_mx, e_pcI, e_pcL, e_low, zml_83, zg83_0, zb83_0, zg83_30, zb83_30, zb83_36, zg83_57, zb83_57, zg83_63, zb83_63, zg83_94, zb83_94, zg83_95, zb83_95, zb83_128, zg83_164, zb83_164, zg83_165, zb83_165, zg83_167, zb83_167, zg83_179, zb83_179, zg83_180, zb83_180, zg83_189, zb83_189, zmc_81, zms_81, zow_81, zhd_81, zmc_82, zms_82, zow_82, zhd_82, zmc_83, zms_83, zow_83, zhd_83, ↓gf_1_0, ↓gf_1_1, ↓gv_1, ↓pp_1_1, ↓pp_1_2, show ztg 110 18 = 128 from rfl, show ztg 130 37 = 167 from rfl, show ztg 136 31 = 167 from rfl, show ztg 141 26 = 167 from rfl, show ztg 157 7 = 164 from rfl, show ztg 161 4 = 165 from rfl, show ztg 171 8 = 179 from rfl, show ztg 176 4 = 180 from rfl, show ztg 186 (-150) = 36 from rfl, show ztg 26 4 = 30 from rfl, show ztg 39 150 = 189 from rfl, show ztg 45 144 = 189 from rfl, show ztg 50 7 = 57 from rfl, show ztg 54 9 = 63 from rfl, show ztg 78 16 = 94 from rfl, show ztg 87 7 = 94 from rfl, show ztg 91 4 = 95 from rfl, show ztg 99 29 = 128 from rfl, LChoices_d lC2, LChoices_r3 lC2, LChoices_k3 lC2, LChoices_n3 lC2, LChoices_r4 lC2, LChoices_k4 lC2, LChoices_n4 lC2, LChoices_r5 lC2, LChoices_k5 lC2, LChoices_n5 lC2]
            refine ⟨fun c4 => ?_, fun c4 => ?_⟩
            · exact zjf rfl (t128 false τ2 (fun z => by cases z) (fun _ => ⟨c4, s4⟩))
            · refine zjf rfl (t128 true _ (fun _ => ?_) (fun z => by cases z))
              rw [bw_take (b := bits) c4 (fun s k1 k2 => ?_) (fun x k1 k2 k3 => domS x (by omega) k2) (by omega)]
              · exact SI_best s4
              · obtain ⟨b, hb2⟩ := bw_ex (S := S) k1 k2
                have := h2 rfl b hb2
                have := (bw_some hb2).2.2 s k1 k2
                omega
        have lC2 := LA_Choices (LA_fz hs.1 (QC_A h))
        rw [zg83_63]
        simp only [zx_iconst, zx_bipush, zx_sipush, zx_lconst, zx_ldc, zx_ldcS, zx_ldc_w, zx_ldc2_w, zx_iload, zx_lload, zx_aload, zx_istore_n, zx_istore, zx_lstore_n, zx_lstore, zx_astore_n, zx_astore, zx_iinc, zx_iadd, zx_isub, zx_imul, zx_iand, zx_ior, zx_ixor, zx_ishl, zx_ishr, zx_iushr, zx_idiv, zx_irem, zx_ineg, zx_ladd, zx_lsub, zx_land, zx_lor, zx_lxor, zx_lneg, zx_lshl, zx_lushr, zx_i2l, zx_l2i, zx_lcmp, zx_dup, zx_dup2, zx_pop, zx_goto, zx_if_eq, zx_if_ne, zx_if_lt, zx_if_ge, zx_if_gt, zx_if_le, zx_icmp_eq, zx_icmp_ne, zx_icmp_lt, zx_icmp_ge, zx_icmp_gt, zx_icmp_le, zx_getfield, zx_putfield, zx_iaload, zx_laload, zx_aaload, zx_iastore, zx_lastore, zx_arraylength, zx_ireturn, zx_lreturn, zx_areturn, zx_return, zx_athrow, zx_static0, zx_static1, zx_virt1, zx_static2, zx_virt2, zx_static3, zx_virt3, zx_static4, zx_virt4, zx_static5, zx_virt5, zx_static6, zx_virt6, zx_static7, zx_virt7, zx_cpI, zx_cpL, ↓cpI, ↓cpL, zx_slen, zx_schr, zx_tsw, zx_spec3, new_X, zx_new1, zrun_nil, zrun_cons, ↓zgi_h, ↓zgi_n, ↓zgl_h, ↓zgl_n, ↓zgr_h, ↓zgr_n, zset1, zset2, zins_nil, zins_c, f3, cat_i, cat_l, cat_r, List.filter_cons, List.filter_nil, Bool.false_eq_true, l_of0, lv_args, Nat.reduceBEq, Nat.reduceAdd, Nat.reduceLeDiff, Nat.reduceLT, Bool.not_true, Bool.not_false, Bool.and_true, Bool.true_and, Bool.and_false, Bool.false_and, Nat.reduceEqDiff, reduceIte, List.contains_cons, List.contains_nil, Bool.or_false, Bool.or_true, Bool.false_or, Bool.true_or, Fin.isValue, Fin.val_zero, Fin.val_one, Fin.val_two, Fin.reduceFinMk, Option.toList_some, Option.toList_none, List.nil_append, List.cons_append, zwt_nil, zwt_i, zwt_l, zwt_r, zthr_nil, List.isEmpty_nil, zcE, ↓ar_k, lgc0, true_and, and_true, true_implies, implies_true, false_implies, forall_const, i_len, ob_0, ob_1, ↓bI_01, bI_0, not_true_eq_false, not_false_eq_true, Bool.not_eq_false, Bool.not_eq_true, ia_add, ia_sub, ia_mul, ia_neg, ↓ldI, ↓ldL, zaI_c, zaL_c, ↓zlen_I, ↓zlen_L, ↓stI, ↓stL, gD_sI, gN_sI, gI_sI, gJ_sI, gR_sI, gA_sI, gB_sI, gT_sI, gD_sJ, gN_sJ, gI_sJ, gJ_sJ, gR_sJ, gA_sJ, gB_sJ, gT_sJ, gD_sR, gN_sR, gI_sR, gJ_sR, gR_sR, gA_sR, gB_sR, gT_sR, gD_sA, gN_sA, gI_sA, gJ_sA, gR_sA, gA_sA, gB_sA, gT_sA, gD_sB, gN_sB, gI_sB, gJ_sB, gR_sB, gA_sB, gB_sB, gT_sB, zx_il0, zx_il1, zx_il2, zx_il3, zx_ll0, zx_ll1, zx_ll2, zx_ll3, zx_al0, zx_al1, zx_al2, zx_al3, e_has, e_bA, e_mn, e_mx, e_pcI, e_pcL, e_low, zml_83, zg83_0, zb83_0, zg83_30, zb83_30, zb83_36, zg83_57, zb83_57, zg83_63, zb83_63, zg83_94, zb83_94, zb83_95, zg83_128, zb83_128, zg83_164, zb83_164, zg83_165, zb83_165, zg83_167, zb83_167, zg83_179, zb83_179, zg83_180, zb83_180, zg83_189, zb83_189, zmc_81, zms_81, zow_81, zhd_81, zmc_82, zms_82, zow_82, zhd_82, zmc_83, zms_83, zow_83, zhd_83, ↓gf_1_0, ↓gf_1_1, ↓gv_1, ↓pp_1_1, ↓pp_1_2, show ztg 110 18 = 128 from rfl, show ztg 130 37 = 167 from rfl, show ztg 136 31 = 167 from rfl, show ztg 141 26 = 167 from rfl, show ztg 157 7 = 164 from rfl, show ztg 161 4 = 165 from rfl, show ztg 171 8 = 179 from rfl, show ztg 176 4 = 180 from rfl, show ztg 186 (-150) = 36 from rfl, show ztg 26 4 = 30 from rfl, show ztg 39 150 = 189 from rfl, show ztg 45 144 = 189 from rfl, show ztg 50 7 = 57 from rfl, show ztg 54 9 = 63 from rfl, show ztg 78 16 = 94 from rfl, show ztg 87 7 = 94 from rfl, show ztg 91 4 = 95 from rfl, show ztg 99 29 = 128 from rfl, LChoices_d lC2, LChoices_r3 lC2, LChoices_k3 lC2, LChoices_n3 lC2, LChoices_r4 lC2, LChoices_k4 lC2, LChoices_n4 lC2, LChoices_r5 lC2, LChoices_k5 lC2, LChoices_n5 lC2]
        refine u_sum (w := w) lC2 hs.2.2.1.1 hcm (by omega) (fun i hi => by rw [hs.2.1]; exact hw i hi) ?_
        rw [eS]
        have hsb := hS2 bits
        simp only [zx_iconst, zx_bipush, zx_sipush, zx_lconst, zx_ldc, zx_ldcS, zx_ldc_w, zx_ldc2_w, zx_iload, zx_lload, zx_aload, zx_istore_n, zx_istore, zx_lstore_n, zx_lstore, zx_astore_n, zx_astore, zx_iinc, zx_iadd, zx_isub, zx_imul, zx_iand, zx_ior, zx_ixor, zx_ishl, zx_ishr, zx_iushr, zx_idiv, zx_irem, zx_ineg, zx_ladd, zx_lsub, zx_land, zx_lor, zx_lxor, zx_lneg, zx_lshl, zx_lushr, zx_i2l, zx_l2i, zx_lcmp, zx_dup, zx_dup2, zx_pop, zx_goto, zx_if_eq, zx_if_ne, zx_if_lt, zx_if_ge, zx_if_gt, zx_if_le, zx_icmp_eq, zx_icmp_ne, zx_icmp_lt, zx_icmp_ge, zx_icmp_gt, zx_icmp_le, zx_getfield, zx_putfield, zx_iaload, zx_laload, zx_aaload, zx_iastore, zx_lastore, zx_arraylength, zx_ireturn, zx_lreturn, zx_areturn, zx_return, zx_athrow, zx_static0, zx_static1, zx_virt1, zx_static2, zx_virt2, zx_static3, zx_virt3, zx_static4, zx_virt4, zx_static5, zx_virt5, zx_static6, zx_virt6, zx_static7, zx_virt7, zx_cpI, zx_cpL, ↓cpI, ↓cpL, zx_slen, zx_schr, zx_tsw, zx_spec3, new_X, zx_new1, zrun_nil, zrun_cons, ↓zgi_h, ↓zgi_n, ↓zgl_h, ↓zgl_n, ↓zgr_h, ↓zgr_n, zset1, zset2, zins_nil, zins_c, f3, cat_i, cat_l, cat_r, List.filter_cons, List.filter_nil, Bool.false_eq_true, l_of0, lv_args, Nat.reduceBEq, Nat.reduceAdd, Nat.reduceLeDiff, Nat.reduceLT, Bool.not_true, Bool.not_false, Bool.and_true, Bool.true_and, Bool.and_false, Bool.false_and, Nat.reduceEqDiff, reduceIte, List.contains_cons, List.contains_nil, Bool.or_false, Bool.or_true, Bool.false_or, Bool.true_or, Fin.isValue, Fin.val_zero, Fin.val_one, Fin.val_two, Fin.reduceFinMk, Option.toList_some, Option.toList_none, List.nil_append, List.cons_append, zwt_nil, zwt_i, zwt_l, zwt_r, zthr_nil, List.isEmpty_nil, zcE, ↓ar_k, lgc0, true_and, and_true, true_implies, implies_true, false_implies, forall_const, i_len, ob_0, ob_1, ↓bI_01, bI_0, not_true_eq_false, not_false_eq_true, Bool.not_eq_false, Bool.not_eq_true, ia_add, ia_sub, ia_mul, ia_neg, ↓ldI, ↓ldL, zaI_c, zaL_c, ↓zlen_I, ↓zlen_L, ↓stI, ↓stL, gD_sI, gN_sI, gI_sI, gJ_sI, gR_sI, gA_sI, gB_sI, gT_sI, gD_sJ, gN_sJ, gI_sJ, gJ_sJ, gR_sJ, gA_sJ, gB_sJ, gT_sJ, gD_sR, gN_sR, gI_sR, gJ_sR, gR_sR, gA_sR, gB_sR, gT_sR, gD_sA, gN_sA, gI_sA, gJ_sA, gR_sA, gA_sA, gB_sA, gT_sA, gD_sB, gN_sB, gI_sB, gJ_sB, gR_sB, gA_sB, gB_sB, gT_sB, zx_il0, zx_il1, zx_il2, zx_il3, zx_ll0, zx_ll1, zx_ll2, zx_ll3, zx_al0, zx_al1, zx_al2, zx_al3, e_has, e_bA, e_mn, e_mx, e_pcI, e_pcL, e_low, zml_83, zg83_0, zb83_0, zg83_30, zb83_30, zb83_36, zg83_57, zb83_57, zg83_63, zb83_63, zg83_94, zb83_94, zb83_95, zg83_128, zb83_128, zg83_164, zb83_164, zg83_165, zb83_165, zg83_167, zb83_167, zg83_179, zb83_179, zg83_180, zb83_180, zg83_189, zb83_189, zmc_81, zms_81, zow_81, zhd_81, zmc_82, zms_82, zow_82, zhd_82, zmc_83, zms_83, zow_83, zhd_83, ↓gf_1_0, ↓gf_1_1, ↓gv_1, ↓pp_1_1, ↓pp_1_2, show ztg 110 18 = 128 from rfl, show ztg 130 37 = 167 from rfl, show ztg 136 31 = 167 from rfl, show ztg 141 26 = 167 from rfl, show ztg 157 7 = 164 from rfl, show ztg 161 4 = 165 from rfl, show ztg 171 8 = 179 from rfl, show ztg 176 4 = 180 from rfl, show ztg 186 (-150) = 36 from rfl, show ztg 26 4 = 30 from rfl, show ztg 39 150 = 189 from rfl, show ztg 45 144 = 189 from rfl, show ztg 50 7 = 57 from rfl, show ztg 54 9 = 63 from rfl, show ztg 78 16 = 94 from rfl, show ztg 87 7 = 94 from rfl, show ztg 91 4 = 95 from rfl, show ztg 99 29 = 128 from rfl, LChoices_d lC2, LChoices_r3 lC2, LChoices_k3 lC2, LChoices_n3 lC2, LChoices_r4 lC2, LChoices_k4 lC2, LChoices_n4 lC2, LChoices_r5 lC2, LChoices_k5 lC2, LChoices_n5 lC2, hs.2.2.2.1]
        cases e : bw P S bits with
        | none =>
          simp only [Option.map_none, oI_none]
          refine ⟨fun _ => ?_, fun z => absurd trivial z⟩
          exact t95 false (fun z => by cases z) (fun _ b hb => by rw [e] at hb; cases hb)
        | some b =>
          have hsb2 := hS2 b
          simp only [Option.map_some, oI_some]
          try simp (disch := omega) only [ii_lt, ii_le, ii_eq, ii_eq0, ii_lt0, ii_0lt, ii_le0, ii_0le, i_inT, i_natN, i_nat, ia_div, ia_rem, hs_ofI, i_1shl, i_or, i_bit, true_and, and_true, not_true_eq_false, not_false_eq_true, true_implies, false_implies, implies_true, Int.reduceLT, Int.reduceLE, Int.reduceEq, Int.reduceNeg, Int.toNat_natCast, Int.reduceToNat, Nat.reduceLeDiff, Nat.reduceAdd, tn_2, tn_2p, tn_48, tn_48r, tn_3, tn_3p, tn_3q, tn_p1, tn_d2, tn_12, ia_add, ia_sub, ia_mul]
          refine ⟨fun z => by omega, fun _ => ⟨fun c2 => ?_, fun c2 => ?_⟩⟩
          · exact t95 false (fun z => by cases z) (fun _ b2 hb => by rw [e] at hb; cases hb; omega)
          · exact t95 true (fun _ => ⟨b, e, by omega⟩) (fun z => by cases z)
      rw [zg83_36]
      simp only [zx_iconst, zx_bipush, zx_sipush, zx_lconst, zx_ldc, zx_ldcS, zx_ldc_w, zx_ldc2_w, zx_iload, zx_lload, zx_aload, zx_istore_n, zx_istore, zx_lstore_n, zx_lstore, zx_astore_n, zx_astore, zx_iinc, zx_iadd, zx_isub, zx_imul, zx_iand, zx_ior, zx_ixor, zx_ishl, zx_ishr, zx_iushr, zx_idiv, zx_irem, zx_ineg, zx_ladd, zx_lsub, zx_land, zx_lor, zx_lxor, zx_lneg, zx_lshl, zx_lushr, zx_i2l, zx_l2i, zx_lcmp, zx_dup, zx_dup2, zx_pop, zx_goto, zx_if_eq, zx_if_ne, zx_if_lt, zx_if_ge, zx_if_gt, zx_if_le, zx_icmp_eq, zx_icmp_ne, zx_icmp_lt, zx_icmp_ge, zx_icmp_gt, zx_icmp_le, zx_getfield, zx_putfield, zx_iaload, zx_laload, zx_aaload, zx_iastore, zx_lastore, zx_arraylength, zx_ireturn, zx_lreturn, zx_areturn, zx_return, zx_athrow, zx_static0, zx_static1, zx_virt1, zx_static2, zx_virt2, zx_static3, zx_virt3, zx_static4, zx_virt4, zx_static5, zx_virt5, zx_static6, zx_virt6, zx_static7, zx_virt7, zx_cpI, zx_cpL, ↓cpI, ↓cpL, zx_slen, zx_schr, zx_tsw, zx_spec3, new_X, zx_new1, zrun_nil, zrun_cons, ↓zgi_h, ↓zgi_n, ↓zgl_h, ↓zgl_n, ↓zgr_h, ↓zgr_n, zset1, zset2, zins_nil, zins_c, f3, cat_i, cat_l, cat_r, List.filter_cons, List.filter_nil, Bool.false_eq_true, l_of0, lv_args, Nat.reduceBEq, Nat.reduceAdd, Nat.reduceLeDiff, Nat.reduceLT, Bool.not_true, Bool.not_false, Bool.and_true, Bool.true_and, Bool.and_false, Bool.false_and, Nat.reduceEqDiff, reduceIte, List.contains_cons, List.contains_nil, Bool.or_false, Bool.or_true, Bool.false_or, Bool.true_or, Fin.isValue, Fin.val_zero, Fin.val_one, Fin.val_two, Fin.reduceFinMk, Option.toList_some, Option.toList_none, List.nil_append, List.cons_append, zwt_nil, zwt_i, zwt_l, zwt_r, zthr_nil, List.isEmpty_nil, zcE, ↓ar_k, lgc0, true_and, and_true, true_implies, implies_true, false_implies, forall_const, i_len, ob_0, ob_1, ↓bI_01, bI_0, not_true_eq_false, not_false_eq_true, Bool.not_eq_false, Bool.not_eq_true, ia_add, ia_sub, ia_mul, ia_neg, ↓ldI, ↓ldL, zaI_c, zaL_c, ↓zlen_I, ↓zlen_L, ↓stI, ↓stL, gD_sI, gN_sI, gI_sI, gJ_sI, gR_sI, gA_sI, gB_sI, gT_sI, gD_sJ, gN_sJ, gI_sJ, gJ_sJ, gR_sJ, gA_sJ, gB_sJ, gT_sJ, gD_sR, gN_sR, gI_sR, gJ_sR, gR_sR, gA_sR, gB_sR, gT_sR, gD_sA, gN_sA, gI_sA, gJ_sA, gR_sA, gA_sA, gB_sA, gT_sA, gD_sB, gN_sB, gI_sB, gJ_sB, gR_sB, gA_sB, gB_sB, gT_sB, zx_il0, zx_il1, zx_il2, zx_il3, zx_ll0, zx_ll1, zx_ll2, zx_ll3, zx_al0, zx_al1, zx_al2, zx_al3, e_has, e_bA, e_mn, e_mx, e_pcI, e_pcL, e_low, zml_83, zg83_0, zb83_0, zg83_30, zb83_30, zb83_36, zg83_57, zb83_57, zb83_63, zg83_94, zb83_94, zg83_95, zb83_95, zg83_128, zb83_128, zg83_164, zb83_164, zg83_165, zb83_165, zg83_167, zb83_167, zg83_179, zb83_179, zg83_180, zb83_180, zg83_189, zb83_189, zmc_81, zms_81, zow_81, zhd_81, zmc_82, zms_82, zow_82, zhd_82, zmc_83, zms_83, zow_83, zhd_83, ↓gf_1_0, ↓gf_1_1, ↓gv_1, ↓pp_1_1, ↓pp_1_2, show ztg 110 18 = 128 from rfl, show ztg 130 37 = 167 from rfl, show ztg 136 31 = 167 from rfl, show ztg 141 26 = 167 from rfl, show ztg 157 7 = 164 from rfl, show ztg 161 4 = 165 from rfl, show ztg 171 8 = 179 from rfl, show ztg 176 4 = 180 from rfl, show ztg 186 (-150) = 36 from rfl, show ztg 26 4 = 30 from rfl, show ztg 39 150 = 189 from rfl, show ztg 45 144 = 189 from rfl, show ztg 50 7 = 57 from rfl, show ztg 54 9 = 63 from rfl, show ztg 78 16 = 94 from rfl, show ztg 87 7 = 94 from rfl, show ztg 91 4 = 95 from rfl, show ztg 99 29 = 128 from rfl]
      try simp (disch := omega) only [ii_lt, ii_le, ii_eq, ii_eq0, ii_lt0, ii_0lt, ii_le0, ii_0le, i_inT, i_natN, i_nat, ia_div, ia_rem, hs_ofI, i_1shl, i_or, i_bit, true_and, and_true, not_true_eq_false, not_false_eq_true, true_implies, false_implies, implies_true, Int.reduceLT, Int.reduceLE, Int.reduceEq, Int.reduceNeg, Int.toNat_natCast, Int.reduceToNat, Nat.reduceLeDiff, Nat.reduceAdd, tn_2, tn_2p, tn_48, tn_48r, tn_3, tn_3p, tn_3q, tn_p1, tn_d2, tn_12, ia_add, ia_sub, ia_mul]
      refine ⟨fun c => ?_, fun c => ⟨fun c2 => ?_, fun c2 => ⟨fun c3 => ?_, fun c3 => ?_⟩⟩⟩
      · rw [show bits = 2 ^ cm T r from by omega] at hs
        exact fin τ hs
      · rw [show bits = 2 ^ cm T r from by omega] at hs
        exact fin τ hs
      · obtain ⟨j0, hj0⟩ := nat_ne0 (m := bits) (by omega)
        obtain ⟨k, k1, k2⟩ := nat_lo j0 hj0
        have kc : k < cm T r := by
          apply Classical.byContradiction
          intro hn
          have : bits < 2 ^ k := Nat.lt_of_lt_of_le (show bits < 2 ^ cm T r by omega) (Nat.pow_le_pow_right (by omega) (by omega))
          rw [Nat.testBit_lt_two_pow this] at k1
          cases k1
        rw [i_low k1 k2 (by omega)]
        have hq := low_q k2
        refine body (by omega) k _ hq ?_ (by omega)
        obtain ⟨d, hd⟩ : ∃ d, cm T r = k + d := ⟨cm T r - k, by omega⟩
        have h1 : 2 ^ k * (bits / 2 ^ k) < 2 ^ k * 2 ^ d := by
          rw [← hq, ← Nat.pow_add, ← hd]
          omega
        have h2 := Nat.lt_of_mul_lt_mul_left h1
        have h3 : 2 ^ k * (bits / 2 ^ k + 1) ≤ 2 ^ k * 2 ^ d := Nat.mul_le_mul_left _ h2
        rw [Nat.mul_succ, ← hq, ← Nat.pow_add, ← hd] at h3
        exact h3
      · exact body (by omega) (cm T r) 0 (by omega) (by omega) (by omega)
    exact zjf rfl (key 0 (by omega) 0 σ2 (by omega) (by omega) (by rw [show bw P S 0 = none from lw_none.2 (fun b z => absurd z.1 (Nat.not_lt_zero _))]; exact s1))
  · refine fin σ2 ?_
    rw [show bw P S (2 ^ cm T r) = none from lw_none.2 (fun b ⟨b1, b2, _⟩ => ?_)]
    · exact s1
    · have := P_mono b (2 ^ cm T r - 1) (fun j hj => by
        rw [Nat.testBit_two_pow_sub_one, decide_eq_true_eq]
        apply Classical.byContradiction
        intro hn
        rw [Nat.testBit_lt_two_pow (Nat.lt_of_lt_of_le b1 (Nat.pow_le_pow_right (by omega) (by omega)))] at hj
        cases hj) b2
      rw [c1] at this
      cases this
