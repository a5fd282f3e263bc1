/-! COUNTS OF SETS, REACHING -/
/-- a block keeps some of the locals: the others are as good as gone -/
theorem zjf {k pc e : Nat} {kp : List Nat} {ops : List zOp} {Q : zQ} {L : zL} {S : List Value} {h : zH} {kc ks : Nat} (hf : (zbl (zP k)).find? (fun q => q.1 == pc) = some (pc, kp, ops, e)) (hr : zfp zP (zcall zP k) k Q pc (L.filter (fun q => kp.contains q.1)) S h kc ks) : zfp zP (zcall zP k) k Q pc L S h kc ks := by
  rw [zgoE hf] at hr ⊢
  rw [List.filter_filter] at hr
  simp only [Bool.and_self] at hr
  exact hr
theorem bk {P : Nat → Prop} (N : Nat) (hs : ∀ i, i ≤ N → (i < N → P (i + 1)) → P i) : ∀ i, i ≤ N → P i := by
  have : ∀ n i, n = N - i → i ≤ N → P i := by
    intro n
    induction n with
    | zero => exact fun i h1 h2 => hs i h2 (fun h => by omega)
    | succ n ih => exact fun i h1 h2 => hs i h2 (fun h => ih (i + 1) (by omega) (by omega))
  exact fun i h => this _ i rfl h
def cp (p : Nat → Bool) : Nat → Nat
  | 0 => 0
  | n + 1 => cp p n + (p n).toNat
theorem cp_cn {x : Nat} : ∀ n, cp x.testBit n = cn x n
  | 0 => rfl
  | n + 1 => by
    show cp x.testBit n + _ = cn x n + _
    rw [cp_cn n]
theorem cp_le {p : Nat → Bool} : ∀ n, cp p n ≤ n
  | 0 => Nat.le_refl 0
  | n + 1 => by
    have h1 := cp_le (p := p) n
    have h2 := Bool.toNat_le (p n)
    show cp p n + _ ≤ n + 1
    omega
theorem cp_congr {p q : Nat → Bool} : ∀ n, (∀ j, j < n → p j = q j) → cp p n = cp q n
  | 0, _ => rfl
  | n + 1, h => by
    show cp p n + _ = cp q n + _
    rw [cp_congr n (fun j hj => h j (by omega)), h n (by omega)]
theorem cp_or {p q r : Nat → Bool} : ∀ n, (∀ j, j < n → r j = (p j || q j)) → (∀ j, j < n → (p j && q j) = false) → cp r n = cp p n + cp q n
  | 0, _, _ => rfl
  | n + 1, h, h2 => by
    show cp r n + _ = cp p n + _ + (cp q n + _)
    have a := h n (by omega)
    have b := h2 n (by omega)
    rw [cp_or n (fun j hj => h j (by omega)) (fun j hj => h2 j (by omega)), a]
    cases e1 : p n <;> cases e2 : q n <;> simp_all <;> omega
theorem cp_pos {p : Nat → Bool} : ∀ n j, j < n → p j = true → 0 < cp p n
  | 0, j, h, _ => by omega
  | n + 1, j, h, hp => by
    show 0 < cp p n + _
    by_cases e : j = n
    · subst e
      rw [hp]
      exact Nat.succ_pos _
    · have := cp_pos n j (by omega) hp
      omega
theorem cp_rem {p q : Nat → Bool} {i : Nat} : ∀ n, i < n → p i = true → (∀ j, q j = (p j && decide (j ≠ i))) → cp p n = cp q n + 1
  | 0, h, _, _ => by omega
  | n + 1, h, hp, hq => by
    show cp p n + _ = cp q n + _ + 1
    by_cases e : i = n
    · subst e
      rw [cp_congr (p := p) (q := q) i (fun j hj => by rw [hq j, decide_eq_true (by omega), Bool.and_true]), hq i, hp, decide_eq_false (by simp)]
      rfl
    · rw [cp_rem n (by omega) hp hq, hq n, decide_eq_true (by omega), Bool.and_true]
      omega
theorem cp_mono {p q : Nat → Bool} : ∀ n, (∀ j, j < n → p j = true → q j = true) → cp p n ≤ cp q n
  | 0, _ => Nat.le_refl 0
  | n + 1, h => by
    show cp p n + _ ≤ cp q n + _
    have := cp_mono n (fun j hj => h j (by omega))
    have := h n (by omega)
    cases e1 : p n <;> cases e2 : q n <;> simp_all <;> omega
/-- b comes behind a by n steps -/
def rc (R : Nat → Nat → Bool) : Nat → Nat → Nat → Prop
  | 0, a, b => a = b
  | n + 1, a, b => ∃ c, R a c = true ∧ rc R n c b
def rt (R : Nat → Nat → Bool) (a b : Nat) : Prop := ∃ n, rc R n a b
theorem rt_refl {R : Nat → Nat → Bool} {a : Nat} : rt R a a := ⟨0, rfl⟩
theorem rt_step {R : Nat → Nat → Bool} {a c b : Nat} (h : R a c = true) (h2 : rt R c b) : rt R a b := by
  obtain ⟨n, hn⟩ := h2
  exact ⟨n + 1, c, h, hn⟩
theorem rc_trans {R : Nat → Nat → Bool} : ∀ (n m a b c : Nat), rc R n a b → rc R m b c → rc R (n + m) a c := by
  intro n
  induction n with
  | zero =>
    intro m a b c h1 h2
    have h1 : a = b := h1
    subst h1
    rw [Nat.zero_add]
    exact h2
  | succ n ih =>
    intro m a b c h1 h2
    obtain ⟨d, h3, h4⟩ := h1
    rw [Nat.succ_add]
    exact ⟨d, h3, ih m d b c h4 h2⟩
theorem rt_trans {R : Nat → Nat → Bool} {a b c : Nat} (h1 : rt R a b) (h2 : rt R b c) : rt R a c := by
  obtain ⟨n, hn⟩ := h1
  obtain ⟨m, hm⟩ := h2
  exact ⟨n + m, rc_trans n m a b c hn hm⟩
theorem rt_closed {R : Nat → Nat → Bool} {p : Nat → Prop} (hc : ∀ a b, p a → R a b = true → p b) {a b : Nat} (ha : p a) (h : rt R a b) : p b := by
  obtain ⟨n, hn⟩ := h
  induction n generalizing a with
  | zero =>
    have hn : a = b := hn
    subst hn
    exact ha
  | succ n ih =>
    obtain ⟨c, h1, h2⟩ := hn
    exact ih (hc a c ha h1) h2
theorem rt_mono {R R2 : Nat → Nat → Bool} (hR : ∀ a b, R a b = true → R2 a b = true) {a b : Nat} (h : rt R a b) : rt R2 a b := by
  obtain ⟨n, hn⟩ := h
  induction n generalizing a with
  | zero =>
    have hn : a = b := hn
    subst hn
    exact rt_refl
  | succ n ih =>
    obtain ⟨c, h1, h2⟩ := hn
    exact rt_step (hR a c h1) (ih h2)
/-- arcs behind others -/
theorem u_arcs {σ : zS} {q : Nat} {fi : Int64} {Q : zQ} (hd : gD σ q = 2) (hn : gN σ q = 48) (p : Nat → Prop) (hp : ∀ j, p j → j < 48) (hf : ∀ j, bt fi j = true → p j) (hr : ∀ a b, p a → bt (gB σ q a) b = true → p b) (hQ : ∀ se : Int64, (∀ b, bt se b = true ↔ ∃ a, bt fi a = true ∧ rt (fun a b => bt (gB σ q a) b) a b) → (∀ b, bt se b = true → p b) → Q (.inl (some (.long se))) (hOf σ)) : zW zP 79 [.ref q, .long fi] (hOf σ) Q := by
  rw [zWE]
  simp only [zx_iconst, zx_bipush, zx_sipush, zx_lconst, zx_ldc, zx_ldcS, zx_ldc_w, zx_ldc2_w, zx_iload_n, zx_iload, zx_lload_n, zx_lload, zx_aload_n, zx_aload, zx_istore_n, zx_istore, zx_lstore_n, zx_lstore, zx_astore_n, zx_astore, zx_iinc, zx_iadd, zx_isub, zx_imul, zx_iand, zx_ior, zx_ixor, zx_ishl, zx_ishr, zx_iushr, zx_idiv, zx_irem, zx_ineg, zx_ladd, zx_lsub, zx_land, zx_lor, zx_lxor, zx_lneg, zx_lshl, zx_lushr, zx_i2l, zx_l2i, zx_lcmp, zx_dup, zx_dup2, zx_pop, zx_goto, zx_if_eq, zx_if_ne, zx_if_lt, zx_if_ge, zx_if_gt, zx_if_le, zx_icmp_eq, zx_icmp_ne, zx_icmp_lt, zx_icmp_ge, zx_icmp_gt, zx_icmp_le, zx_getfield, zx_putfield, zx_iaload, zx_laload, zx_aaload, zx_iastore, zx_lastore, zx_arraylength, zx_ireturn, zx_lreturn, zx_areturn, zx_return, zx_athrow, zx_static0, zx_static1, zx_virt1, zx_static2, zx_virt2, zx_static3, zx_virt3, zx_static4, zx_virt4, zx_static5, zx_virt5, zx_static6, zx_virt6, zx_static7, zx_virt7, zx_cpI, zx_cpL, ↓cpI, ↓cpL, zx_slen, zx_schr, zx_tsw, zx_spec3, new_X, zx_new1, zrun_nil, zrun_cons, ↓zgi_h, ↓zgi_n, ↓zgl_h, ↓zgl_n, ↓zgr_h, ↓zgr_n, zset1, zset2, zins_nil, zins_c, f3, cat_i, cat_l, cat_r, List.filter_cons, List.filter_nil, Bool.false_eq_true, l_of0, lv_args, Nat.reduceBEq, Nat.reduceAdd, Nat.reduceLeDiff, Nat.reduceLT, Bool.not_true, Bool.not_false, Bool.and_true, Bool.true_and, Bool.and_false, Bool.false_and, Nat.reduceEqDiff, reduceIte, List.contains_cons, List.contains_nil, Bool.or_false, Bool.or_true, Bool.false_or, Bool.true_or, Fin.isValue, Fin.val_zero, Fin.val_one, Fin.val_two, Fin.reduceFinMk, Option.toList_some, Option.toList_none, List.nil_append, List.cons_append, zwt_nil, zwt_i, zwt_l, zwt_r, zthr_nil, List.isEmpty_nil, zcE, ↓ar_k, lgc0, true_and, and_true, true_implies, implies_true, false_implies, forall_const, i_len, ob_0, ob_1, ↓bI_01, bI_0, not_true_eq_false, not_false_eq_true, Bool.not_eq_false, Bool.not_eq_true, ia_add, ia_sub, ia_mul, ia_neg, ↓ldI, ↓ldL, zaI_c, zaL_c, ↓zlen_I, ↓zlen_L, ↓stI, ↓stL, gD_sI, gN_sI, gI_sI, gJ_sI, gR_sI, gA_sI, gB_sI, gT_sI, gD_sJ, gN_sJ, gI_sJ, gJ_sJ, gR_sJ, gA_sJ, gB_sJ, gT_sJ, gD_sR, gN_sR, gI_sR, gJ_sR, gR_sR, gA_sR, gB_sR, gT_sR, gD_sA, gN_sA, gI_sA, gJ_sA, gR_sA, gA_sA, gB_sA, gT_sA, gD_sB, gN_sB, gI_sB, gJ_sB, gR_sB, gA_sB, gB_sB, gT_sB, e_has, e_bA, e_mn, e_mx, e_pcI, e_pcL, e_low, zml_79, zg79_0, zb79_0, zb79_8, zg79_58, zb79_58, zg79_59, zb79_59, zg79_79, zb79_79, zmc_42, zms_42, zow_42, zhd_42, zmc_79, zms_79, zow_79, zhd_79, show (Int8.ofInt 48).toInt32 = Int32.ofInt 48 from rfl, show ztg 12 67 = 79 from rfl, show ztg 19 60 = 79 from rfl, show ztg 42 16 = 58 from rfl, show ztg 55 4 = 59 from rfl, show ztg 76 (-68) = 8 from rfl, hd, hn]
  have key : ∀ i : Nat, i ≤ 48 → ∀ se ah : Int64, (∀ j, bt fi j = true → bt se j = true) → (∀ j, bt ah j = true → bt se j = true) → (∀ j, bt se j = true → p j) → (∀ b, bt se b = true → ∃ a, bt fi a = true ∧ rt (fun a b => bt (gB σ q a) b) a b) → (∀ a b, bt se a = true → bt ah a = false → bt (gB σ q a) b = true → bt se b = true) → cp (bt se) 48 = cp (bt ah) 48 + i → zfp zP (zcall zP 79) 79 Q 8 [(0, .ref q), (3, .long se), (5, .long ah), (7, .int (Int32.ofInt i))] [] (hOf σ) 0 0 := by
    refine bk 48 ?_
    intro i hi ih se ah h1 h2 h3 h4 h5 h6
    have fin : ah = 0 → Q (.inl (some (.long se))) (hOf σ) := by
      intro h0
      refine hQ se (fun b => ⟨h4 b, ?_⟩) h3
      intro ⟨a, ha, hab⟩
      refine rt_closed (p := fun b => bt se b = true) (fun a b ha hab => h5 a b ha ?_ hab) (h1 a ha) hab
      rw [h0, bt_0]
    rw [zg79_8]
    simp only [zx_iconst, zx_bipush, zx_sipush, zx_lconst, zx_ldc, zx_ldcS, zx_ldc_w, zx_ldc2_w, zx_iload_n, zx_iload, zx_lload_n, zx_lload, zx_aload_n, zx_aload, zx_istore_n, zx_istore, zx_lstore_n, zx_lstore, zx_astore_n, zx_astore, zx_iinc, zx_iadd, zx_isub, zx_imul, zx_iand, zx_ior, zx_ixor, zx_ishl, zx_ishr, zx_iushr, zx_idiv, zx_irem, zx_ineg, zx_ladd, zx_lsub, zx_land, zx_lor, zx_lxor, zx_lneg, zx_lshl, zx_lushr, zx_i2l, zx_l2i, zx_lcmp, zx_dup, zx_dup2, zx_pop, zx_goto, zx_if_eq, zx_if_ne, zx_if_lt, zx_if_ge, zx_if_gt, zx_if_le, zx_icmp_eq, zx_icmp_ne, zx_icmp_lt, zx_icmp_ge, zx_icmp_gt, zx_icmp_le, zx_getfield, zx_putfield, zx_iaload, zx_laload, zx_aaload, zx_iastore, zx_lastore, zx_arraylength, zx_ireturn, zx_lreturn, zx_areturn, zx_return, zx_athrow, zx_static0, zx_static1, zx_virt1, zx_static2, zx_virt2, zx_static3, zx_virt3, zx_static4, zx_virt4, zx_static5, zx_virt5, zx_static6, zx_virt6, zx_static7, zx_virt7, zx_cpI, zx_cpL, ↓cpI, ↓cpL, zx_slen, zx_schr, zx_tsw, zx_spec3, new_X, zx_new1, zrun_nil, zrun_cons, ↓zgi_h, ↓zgi_n, ↓zgl_h, ↓zgl_n, ↓zgr_h, ↓zgr_n, zset1, zset2, zins_nil, zins_c, f3, cat_i, cat_l, cat_r, List.filter_cons, List.filter_nil, Bool.false_eq_true, l_of0, lv_args, Nat.reduceBEq, Nat.reduceAdd, Nat.reduceLeDiff, Nat.reduceLT, Bool.not_true, Bool.not_false, Bool.and_true, Bool.true_and, Bool.and_false, Bool.false_and, Nat.reduceEqDiff, reduceIte, List.contains_cons, List.contains_nil, Bool.or_false, Bool.or_true, Bool.false_or, Bool.true_or, Fin.isValue, Fin.val_zero, Fin.val_one, Fin.val_two, Fin.reduceFinMk, Option.toList_some, Option.toList_none, List.nil_append, List.cons_append, zwt_nil, zwt_i, zwt_l, zwt_r, zthr_nil, List.isEmpty_nil, zcE, ↓ar_k, lgc0, true_and, and_true, true_implies, implies_true, false_implies, forall_const, i_len, ob_0, ob_1, ↓bI_01, bI_0, not_true_eq_false, not_false_eq_true, Bool.not_eq_false, Bool.not_eq_true, ia_add, ia_sub, ia_mul, ia_neg, ↓ldI, ↓ldL, zaI_c, zaL_c, ↓zlen_I, ↓zlen_L, ↓stI, ↓stL, gD_sI, gN_sI, gI_sI, gJ_sI, gR_sI, gA_sI, gB_sI, gT_sI, gD_sJ, gN_sJ, gI_sJ, gJ_sJ, gR_sJ, gA_sJ, gB_sJ, gT_sJ, gD_sR, gN_sR, gI_sR, gJ_sR, gR_sR, gA_sR, gB_sR, gT_sR, gD_sA, gN_sA, gI_sA, gJ_sA, gR_sA, gA_sA, gB_sA, gT_sA, gD_sB, gN_sB, gI_sB, gJ_sB, gR_sB, gA_sB, gB_sB, gT_sB, e_has, e_bA, e_mn, e_mx, e_pcI, e_pcL, e_low, zml_79, zg79_0, zb79_0, zb79_8, zg79_58, zb79_58, zg79_59, zb79_59, zg79_79, zb79_79, zmc_42, zms_42, zow_42, zhd_42, zmc_79, zms_79, zow_79, zhd_79, show (Int8.ofInt 48).toInt32 = Int32.ofInt 48 from rfl, show ztg 12 67 = 79 from rfl, show ztg 19 60 = 79 from rfl, show ztg 42 16 = 58 from rfl, show ztg 55 4 = 59 from rfl, show ztg 76 (-68) = 8 from rfl, hd, hn]
    simp (disch := omega) only [ii_le, i_in, i_nat]
    refine ⟨fun hge => ?_, fun hlt => ⟨fun h0 => fin h0, fun hne => ?_⟩⟩
    · apply fin
      rw [bt_eq0]
      intro j
      cases e : bt ah j with
      | false => rfl
      | true =>
        have k1 := cp_pos 48 j (hp j (h3 j (h2 j e))) e
        have k2 := cp_le (p := bt se) 48
        omega
    · rw [bt_ne0] at hne
      obtain ⟨j0, hj0⟩ := hne
      obtain ⟨k, hk⟩ := lo_ex j0 hj0
      have hkp : p k := h3 k (h2 k hk.1)
      have hk48 : k < 48 := hp k hkp
      rw [low_of hk]
      simp (disch := omega) only [ii_le, i_in, i_nat]
      refine ⟨fun h => by omega, fun _ => ⟨by omega, ?_⟩⟩
      rw [Int.toNat_natCast]
      have fr : ∀ j, bt (gB σ q k &&& (se ^^^ Int64.ofInt (-1))) j = (bt (gB σ q k) j && !bt se j) := fun j => bt_andn
      generalize gB σ q k &&& (se ^^^ Int64.ofInt (-1)) = fs at fr ⊢
      have rs : ∀ j, bt (ah &&& (ah - Int64.ofNat 1)) j = (bt ah j && decide (j ≠ k)) := fun j => bt_rest hk
      generalize ah &&& (ah - Int64.ofNat 1) = rest at rs ⊢
      refine zjf rfl (ih (by omega) (se ||| fs) (rest ||| fs) ?_ ?_ ?_ ?_ ?_ ?_)
      · intro j hj
        rw [bt_or, h1 j hj, Bool.true_or]
      · intro j hj
        rw [bt_or, rs, Bool.or_eq_true, Bool.and_eq_true] at hj
        rw [bt_or]
        cases hj with
        | inl h => rw [h2 j h.1, Bool.true_or]
        | inr h => rw [h, Bool.or_true]
      · intro j hj
        rw [bt_or, fr, Bool.or_eq_true, Bool.and_eq_true] at hj
        cases hj with
        | inl h => exact h3 j h
        | inr h => exact hr k j hkp h.1
      · intro b hb
        rw [bt_or, fr, Bool.or_eq_true, Bool.and_eq_true] at hb
        cases hb with
        | inl h => exact h4 b h
        | inr h =>
          obtain ⟨a, ha, hak⟩ := h4 k (h2 k hk.1)
          exact ⟨a, ha, rt_trans hak (rt_step h.1 rt_refl)⟩
      · intro a b ha hna hab
        rw [bt_or] at ha hna ⊢
        rw [Bool.or_eq_false_iff, rs] at hna
        by_cases e : a = k
        · subst e
          rw [fr, hab]
          cases bt se b <;> rfl
        · rw [hna.2, Bool.or_false] at ha
          have : bt ah a = false := by
            have := hna.1
            rw [decide_eq_true e, Bool.and_true] at this
            exact this
          rw [h5 a b ha this hab, Bool.true_or]
      · have c1 : cp (bt (se ||| fs)) 48 = cp (bt se) 48 + cp (bt fs) 48 := by
          refine cp_or 48 (fun j _ => bt_or) (fun j _ => ?_)
          rw [fr]
          cases bt se j <;> cases bt (gB σ q k) j <;> rfl
        have c2 : cp (bt (rest ||| fs)) 48 = cp (bt rest) 48 + cp (bt fs) 48 := by
          refine cp_or 48 (fun j _ => bt_or) (fun j _ => ?_)
          rw [rs, fr]
          cases e : bt ah j with
          | false => rfl
          | true =>
            rw [h2 j e]
            cases bt (gB σ q k) j <;> simp
        have c3 : cp (bt ah) 48 = cp (bt rest) 48 + 1 := cp_rem 48 hk48 hk.1 rs
        omega
  exact zjf rfl (key 0 (by omega) fi fi (fun _ h => h) (fun _ h => h) hf (fun b hb => ⟨b, hb, rt_refl⟩) (fun a b h1 h2 => by rw [h1] at h2; cases h2) rfl)
