/-! TRAFFIC BY ROUNDS -/
/-- of a rider: on which of its arcs (-1: none yet), how far to go, when it came, when it was home, how often it waited -/
abbrev Rd : Type := Int × Nat × Nat × Int × Nat
def rO (z : Rd) : Int := z.1
def rG (z : Rd) : Nat := z.2.1
def rC (z : Rd) : Nat := z.2.2.1
def rH (z : Rd) : Int := z.2.2.2.1
def rW (z : Rd) : Nat := z.2.2.2.2
/-- how long its way is; its k-th arc -/
noncomputable def wn (T : Tw) (R : Nat → Nat → Bool) (r : Nat) : Nat := pn T R (rB T r) (rA T r)
noncomputable def wa (T : Tw) (R : Nat → Nat → Bool) (r k : Nat) : Nat := fr 0 (pk T R (rB T r) (rA T r) k)
noncomputable def onw (T : Tw) (R : Nat → Nat → Bool) (r : Nat) (z : Rd) : Bool := decide (rO z ≠ -1) && decide (rO z < (wn T R r : Int))
noncomputable def mv (T : Tw) (R : Nat → Nat → Bool) (now : Nat) (z : Nat → Rd) (r : Nat) : Rd :=
  if 0 < wn T R r ∧ rM T r = now then (0, ln T (wa T R r 0), rC (z r), rH (z r), rW (z r))
  else if onw T R r (z r) = true ∧ 0 < rG (z r) then (rO (z r), rG (z r) - 1, now, rH (z r), rW (z r)) else z r
/-- it stands before a corner; which -/
noncomputable def att (T : Tw) (R : Nat → Nat → Bool) (z : Nat → Rd) (r : Nat) : Bool := onw T R r (z r) && decide (rG (z r) = 0)
noncomputable def cor (T : Tw) (R : Nat → Nat → Bool) (z : Nat → Rd) (r : Nat) : Nat := en T (wa T R r (rO (z r)).toNat)
/-- the first of the first n at a corner -/
noncomputable def fst (T : Tw) (R : Nat → Nat → Bool) (z : Nat → Rd) (c : Nat) : Nat → Option Nat
  | 0 => none
  | n + 1 => if att T R z n = true ∧ cor T R z n = c then (match fst T R z c n with
    | none => some n
    | some q => if rC (z n) < rC (z q) then some n else some q) else fst T R z c n
noncomputable def gon (T : Tw) (R : Nat → Nat → Bool) (now : Nat) (r : Nat) (z : Rd) : Rd := if rO z + 1 < (wn T R r : Int) then (rO z + 1, ln T (wa T R r (rO z + 1).toNat), rC z, rH z, rW z) else (rO z + 1, rG z, rC z, (now : Int), rW z)
noncomputable def lgo (T : Tw) (R : Nat → Nat → Bool) (now : Nat) (z : Nat → Rd) (r : Nat) : Rd := if att T R z r = true then (if fst T R z (cor T R z r) (nR T) = some r then gon T R now r (z r) else (rO (z r), rG (z r), rC (z r), rH (z r), rW (z r) + 1)) else z r
noncomputable def rn (T : Tw) (R : Nat → Nat → Bool) : Nat → Nat → Rd
  | 0 => fun _ => (-1, 0, 0, -1, 0)
  | k + 1 => lgo T R k (mv T R k (rn T R k))
/-- bounds -/
def rb (T : Tw) (R : Nat → Nat → Bool) (k : Nat) (z : Nat → Rd) : Prop := ∀ r, r < nR T → -1 ≤ rO (z r) ∧ (rO (z r) ≤ pn T R (rB T r) (rA T r)) ∧ rG (z r) ≤ 99 ∧ rC (z r) ≤ k ∧ -1 ≤ rH (z r) ∧ rH (z r) ≤ k ∧ rW (z r) ≤ k
theorem wn_le {T : Tw} {R : Nat → Nat → Bool} {r : Nat} (hw : wf T) (hR : ∀ a b, R a b = true → isA T a = true ∧ isA T b = true) : wn T R r ≤ 48 := (pn_pk (k := 0) hw hR).2
theorem wa_ok {T : Tw} {R : Nat → Nat → Bool} {r k : Nat} (hw : wf T) (hR : ∀ a b, R a b = true → isA T a = true ∧ isA T b = true) (h : k < wn T R r) : pk T R (rB T r) (rA T r) k = some (wa T R r k) ∧ wa T R r k < 2 * nS T := by
  obtain ⟨a, ha⟩ := ((pn_pk (k := k) hw hR).1).1 h
  have e : wa T R r k = a := by
    unfold wa
    rw [ha]
    rfl
  rw [e]
  exact ⟨ha, pk_A hw hR ha⟩
theorem rb_mv {T : Tw} {R : Nat → Nat → Bool} {k : Nat} {z : Nat → Rd} (hw : wf T) (hR : ∀ a b, R a b = true → isA T a = true ∧ isA T b = true) (h : rb T R k z) : rb T R k (mv T R k z) := by
  intro r hr
  obtain ⟨h1, h2, h3, h4, h5, h6, h7⟩ := h r hr
  unfold mv
  split
  · rename_i c
    have hl := (wf_bg hw (wa_ok hw hR c.1).2).2.2.2.2
    refine ⟨by show -1 ≤ (0 : Int); omega, by show (0 : Int) ≤ _; omega, hl, h4, h5, h6, h7⟩
  · split
    · exact ⟨h1, h2, by show rG (z r) - 1 ≤ 99; omega, Nat.le_refl _, h5, h6, h7⟩
    · exact ⟨h1, h2, h3, h4, h5, h6, h7⟩
theorem rb_lgo {T : Tw} {R : Nat → Nat → Bool} {k : Nat} {z : Nat → Rd} (hw : wf T) (hR : ∀ a b, R a b = true → isA T a = true ∧ isA T b = true) (h : rb T R k z) : rb T R (k + 1) (lgo T R k z) := by
  intro r hr
  obtain ⟨h1, h2, h3, h4, h5, h6, h7⟩ := h r hr
  unfold lgo
  split
  · rename_i c
    unfold att onw at c
    rw [Bool.and_eq_true, Bool.and_eq_true, decide_eq_true_eq, decide_eq_true_eq, decide_eq_true_eq] at c
    obtain ⟨⟨c1, c2⟩, c3⟩ := c
    unfold wn at c2
    split
    · unfold gon
      split
      · rename_i c4
        have hl := (wf_bg hw (wa_ok (r := r) (k := (rO (z r) + 1).toNat) hw hR (by omega)).2).2.2.2.2
        exact ⟨by show -1 ≤ rO (z r) + 1; omega, by show rO (z r) + 1 ≤ _; omega, hl, by show rC (z r) ≤ _; omega, h5, by show rH (z r) ≤ _; omega, by show rW (z r) ≤ _; omega⟩
      · exact ⟨by show -1 ≤ rO (z r) + 1; omega, by show rO (z r) + 1 ≤ _; omega, h3, by show rC (z r) ≤ _; omega, by show -1 ≤ (k : Int); omega, by show (k : Int) ≤ _; omega, by show rW (z r) ≤ _; omega⟩
    · exact ⟨h1, h2, h3, by show rC (z r) ≤ _; omega, h5, by show rH (z r) ≤ _; omega, by show rW (z r) + 1 ≤ _; omega⟩
  · exact ⟨h1, h2, h3, by omega, h5, by omega, by omega⟩
theorem rb_rn {T : Tw} {R : Nat → Nat → Bool} (hw : wf T) (hR : ∀ a b, R a b = true → isA T a = true ∧ isA T b = true) : ∀ k, rb T R k (rn T R k)
  | 0 => fun r hr => ⟨Int.le_refl _, by show (-1 : Int) ≤ _; omega, Nat.zero_le _, Nat.le_refl _, Int.le_refl _, by show (-1 : Int) ≤ _; omega, Nat.le_refl _⟩
  | k + 1 => rb_lgo hw hR (rb_mv hw hR (rb_rn hw hR k))
/-- what the class holds of a rider -/
def RD (σ : zS) (z : Rd) (r : Nat) : Prop := gA σ 70 r = Int32.ofInt (rH z) ∧ gA σ 74 r = Int32.ofInt (rO z) ∧ gA σ 75 r = Int32.ofInt (rG z) ∧ gA σ 76 r = Int32.ofInt (rC z) ∧ gA σ 77 r = Int32.ofInt (rW z)
/-- the frame of a round: ways stay -/
def fR (σ τ : zS) : Prop := fz 69 79 σ τ ∧ gA τ 72 = gA σ 72 ∧ gA τ 73 = gA σ 73
theorem fR_refl {σ : zS} : fR σ σ := ⟨fz_refl, rfl, rfl⟩
theorem fR_A {σ τ : zS} {q : Nat} {g : Nat → Int32} (h : fR σ τ) (hq : q = 70 ∨ q = 74 ∨ q = 75 ∨ q = 76 ∨ q = 77 ∨ q = 78) : fR σ (sA τ q g) := ⟨fz_trans h.1 (fz_sA (by omega)), by rw [gA_sA, if_neg (by omega)]; exact h.2.1, by rw [gA_sA, if_neg (by omega)]; exact h.2.2⟩
theorem fR_I {σ τ : zS} {x : Int32} (h : fR σ τ) : fR σ (sI τ 69 0 x) := ⟨fz_trans h.1 (fz_sI (by omega)), h.2.1, h.2.2⟩
theorem PL_fR {σ τ : zS} {T : Tw} {R : Nat → Nat → Bool} {n : Nat} (f : fR σ τ) (h : PL σ T R n) : PL τ T R n := by
  unfold PL
  rw [f.2.1, f.2.2]
  exact h
theorem PL_k {σ : zS} {T : Tw} {R : Nat → Nat → Bool} {n r k : Nat} (hw : wf T) (hR : ∀ a b, R a b = true → isA T a = true ∧ isA T b = true) (h : PL σ T R n) (hr : r < n) (hk : k < wn T R r) : gA σ 72 (r * 48 + k) = Int32.ofInt (wa T R r k) := (h r hr).2 k _ (wa_ok hw hR hk).1
theorem e_onw {σ : zS} {n r : Nat} {T : Tw} {R : Nat → Nat → Bool} {z : Rd} {Q : zQ} (hl : LTraffic σ) (hw : wf T) (hR : ∀ a b, R a b = true → isA T a = true ∧ isA T b = true) (hn : n ≤ 12) (hp : PL σ T R n) (hr : r < n) (hz : gA σ 74 r = Int32.ofInt (rO z)) (hb : -1 ≤ rO z ∧ rO z ≤ 48) : zW zP 112 [.ref 69, .int (Int32.ofInt r)] (hOf σ) Q = Q (.inl (some (.int (bI (onw T R r z))))) (hOf σ) := by
  have hs := (hp r hr).1
  have hwn := wn_le (T := T) (R := R) (r := r) hw hR
  rw [zWE]
  simp -implicitDefEqProofs only [zx_iconst, zx_bipush, zx_sipush, zx_lconst, zx_ldc, zx_ldcS, zx_ldc_w, zx_ldc2_w, zx_iload, zx_lload, zx_aload, zx_istore_n, zx_istore, zx_lstore_n, zx_lstore, zx_astore_n, zx_astore, zx_iinc, zx_iadd, zx_isub, zx_imul, zx_iand, zx_ior, zx_ixor, zx_ishl, zx_ishr, zx_iushr, zx_idiv, zx_irem, zx_ineg, zx_ladd, zx_lsub, zx_land, zx_lor, zx_lxor, zx_lneg, zx_lshl, zx_lushr, zx_i2l, zx_l2i, zx_lcmp, zx_dup, zx_dup2, zx_pop, zx_goto, zx_if_eq, zx_if_ne, zx_if_lt, zx_if_ge, zx_if_gt, zx_if_le, zx_icmp_eq, zx_icmp_ne, zx_icmp_lt, zx_icmp_ge, zx_icmp_gt, zx_icmp_le, zx_getfield, zx_putfield, zx_iaload, zx_laload, zx_aaload, zx_iastore, zx_lastore, zx_arraylength, zx_ireturn, zx_lreturn, zx_areturn, zx_return, zx_athrow, zx_static0, zx_static1, zx_virt1, zx_static2, zx_virt2, zx_static3, zx_virt3, zx_static4, zx_virt4, zx_static5, zx_virt5, zx_static6, zx_virt6, zx_static7, zx_virt7, zx_cpI, zx_cpL, ↓cpI, ↓cpL, zx_slen, zx_schr, zx_tsw, zx_spec3, new_X, zx_new1, zrun_nil, zrun_cons, ↓zgi_h, ↓zgi_n, ↓zgl_h, ↓zgl_n, ↓zgr_h, ↓zgr_n, zset1, zset2, zins_nil, zins_c, f3, cat_i, cat_l, cat_r, List.filter_cons, List.filter_nil, Bool.false_eq_true, l_of0, lv_args, Nat.reduceBEq, Nat.reduceAdd, Nat.reduceLeDiff, Nat.reduceLT, Bool.not_true, Bool.not_false, Bool.and_true, Bool.true_and, Bool.and_false, Bool.false_and, Nat.reduceEqDiff, reduceIte, List.contains_cons, List.contains_nil, Bool.or_false, Bool.or_true, Bool.false_or, Bool.true_or, Fin.isValue, Fin.val_zero, Fin.val_one, Fin.val_two, Fin.reduceFinMk, Option.toList_some, Option.toList_none, List.nil_append, List.cons_append, zwt_nil, zwt_i, zwt_l, zwt_r, zthr_nil, List.isEmpty_nil, zcE, ↓ar_k, lgc0, true_and, and_true, true_implies, implies_true, false_implies, forall_const, i_len, ob_0, ob_1, ↓bI_01, bI_0, not_true_eq_false, not_false_eq_true, Bool.not_eq_false, Bool.not_eq_true, ia_add, ia_sub, ia_mul, ia_neg, ↓ldI, ↓ldL, zaI_c, zaL_c, ↓zlen_I, ↓zlen_L, ↓stI, ↓stL, gD_sI, gN_sI, gI_sI, gJ_sI, gR_sI, gA_sI, gB_sI, gT_sI, gD_sJ, gN_sJ, gI_sJ, gJ_sJ, gR_sJ, gA_sJ, gB_sJ, gT_sJ, gD_sR, gN_sR, gI_sR, gJ_sR, gR_sR, gA_sR, gB_sR, gT_sR, gD_sA, gN_sA, gI_sA, gJ_sA, gR_sA, gA_sA, gB_sA, gT_sA, gD_sB, gN_sB, gI_sB, gJ_sB, gR_sB, gA_sB, gB_sB, gT_sB, zx_il0, zx_il1, zx_il2, zx_il3, zx_ll0, zx_ll1, zx_ll2, zx_ll3, zx_al0, zx_al1, zx_al2, zx_al3, e_has, e_bA, e_mn, e_mx, e_pcI, e_pcL, e_low, zml_112, zg112_0, zb112_0, zg112_29, zb112_29, zg112_30, zb112_30, zmc_112, zms_112, zow_112, zhd_112, ↓gf_9_4, ↓gf_9_5, show ztg 22 7 = 29 from rfl, show ztg 26 4 = 30 from rfl, show ztg 7 22 = 29 from rfl, LTraffic_d hl, LTraffic_r1 hl, LTraffic_k1 hl, LTraffic_n1 hl, LTraffic_r2 hl, LTraffic_k2 hl, LTraffic_n2 hl, LTraffic_r3 hl, LTraffic_k3 hl, LTraffic_n3 hl, LTraffic_r4 hl, LTraffic_k4 hl, LTraffic_n4 hl, LTraffic_r5 hl, LTraffic_k5 hl, LTraffic_n5 hl, LTraffic_r6 hl, LTraffic_k6 hl, LTraffic_n6 hl, LTraffic_r7 hl, LTraffic_k7 hl, LTraffic_n7 hl, LTraffic_r8 hl, LTraffic_k8 hl, LTraffic_n8 hl, LTraffic_r9 hl, LTraffic_k9 hl, LTraffic_n9 hl]
  try simp (disch := omega) only [ii_lt, ii_le, ii_eq, ii_eq0, ii_lt0, ii_0lt, ii_le0, ii_0le, i_inT, i_natN, i_nat, ia_div, ia_rem, hs_ofI, i_1shl, i_or, i_bit, true_and, and_true, not_true_eq_false, not_false_eq_true, true_implies, false_implies, implies_true, Int.reduceLT, Int.reduceLE, Int.reduceEq, Int.reduceNeg, Int.toNat_natCast, Int.reduceToNat, Nat.reduceLeDiff, Nat.reduceAdd, tn_2, tn_2p, tn_48, tn_48r, tn_3, tn_3p, tn_3q, tn_p1, tn_d2, tn_12, ia_add, ia_sub, ia_mul, hs, hz]
  try simp only [hs, hz]
  unfold onw
  have e : pn T R (rB T r) (rA T r) = wn T R r := rfl
  rw [e]
  try simp (disch := omega) only [ii_lt, ii_le, ii_eq, ii_eq0, ii_lt0, ii_0lt, ii_le0, ii_0le, i_inT, i_natN, i_nat, ia_div, ia_rem, hs_ofI, i_1shl, i_or, i_bit, true_and, and_true, not_true_eq_false, not_false_eq_true, true_implies, false_implies, implies_true, Int.reduceLT, Int.reduceLE, Int.reduceEq, Int.reduceNeg, Int.toNat_natCast, Int.reduceToNat, Nat.reduceLeDiff, Nat.reduceAdd, tn_2, tn_2p, tn_48, tn_48r, tn_3, tn_3p, tn_3q, tn_p1, tn_d2, tn_12, ia_add, ia_sub, ia_mul]
  simp only [brE, brN]
  (repeat' split) <;> first | exact q1 (by rw [decide_eq_true (by omega), decide_eq_true (by omega)]; rfl) | exact q0 (by rw [Bool.and_eq_false_iff, decide_eq_false_iff_not, decide_eq_false_iff_not]; omega)
theorem e_cor {σ : zS} {t r : Nat} {T : Tw} {rr : Rl} {z : Nat → Rd} {Q : zQ} (h : QC σ t T rr) (hp : PL σ T (nx T rr) (nR T)) (hr : r < nR T) (hz : gA σ 74 r = Int32.ofInt (rO (z r))) (hb : 0 ≤ rO (z r) ∧ rO (z r) < (wn T (nx T rr) r : Int)) : zW zP 110 [.ref 69, .ref t, .int (Int32.ofInt r)] (hOf σ) Q = Q (.inl (some (.int (Int32.ofInt (cor T (nx T rr) z r))))) (hOf σ) := by
  have hw := QC_w h
  have h12 := hw.2.2.1
  have h24 := hw.2.1
  have lT := LA_Traffic (QC_A h)
  have hwn := wn_le (T := T) (R := nx T rr) (r := r) hw nx_A
  obtain ⟨k, hk⟩ : ∃ k : Nat, rO (z r) = (k : Int) := ⟨(rO (z r)).toNat, by omega⟩
  rw [hk] at hb hz
  have hwa := wa_ok (T := T) (R := nx T rr) (r := r) (k := k) hw nx_A (by omega)
  have hpk := PL_k hw nx_A hp hr (k := k) (by omega)
  have he := CT_e (QC_T h) _ hwa.2
  unfold cor
  rw [hk, Int.toNat_natCast]
  rw [zWE]
  simp -implicitDefEqProofs only [zx_iconst, zx_bipush, zx_sipush, zx_lconst, zx_ldc, zx_ldcS, zx_ldc_w, zx_ldc2_w, zx_iload, zx_lload, zx_aload, zx_istore_n, zx_istore, zx_lstore_n, zx_lstore, zx_astore_n, zx_astore, zx_iinc, zx_iadd, zx_isub, zx_imul, zx_iand, zx_ior, zx_ixor, zx_ishl, zx_ishr, zx_iushr, zx_idiv, zx_irem, zx_ineg, zx_ladd, zx_lsub, zx_land, zx_lor, zx_lxor, zx_lneg, zx_lshl, zx_lushr, zx_i2l, zx_l2i, zx_lcmp, zx_dup, zx_dup2, zx_pop, zx_goto, zx_if_eq, zx_if_ne, zx_if_lt, zx_if_ge, zx_if_gt, zx_if_le, zx_icmp_eq, zx_icmp_ne, zx_icmp_lt, zx_icmp_ge, zx_icmp_gt, zx_icmp_le, zx_getfield, zx_putfield, zx_iaload, zx_laload, zx_aaload, zx_iastore, zx_lastore, zx_arraylength, zx_ireturn, zx_lreturn, zx_areturn, zx_return, zx_athrow, zx_static0, zx_static1, zx_virt1, zx_static2, zx_virt2, zx_static3, zx_virt3, zx_static4, zx_virt4, zx_static5, zx_virt5, zx_static6, zx_virt6, zx_static7, zx_virt7, zx_cpI, zx_cpL, ↓cpI, ↓cpL, zx_slen, zx_schr, zx_tsw, zx_spec3, new_X, zx_new1, zrun_nil, zrun_cons, ↓zgi_h, ↓zgi_n, ↓zgl_h, ↓zgl_n, ↓zgr_h, ↓zgr_n, zset1, zset2, zins_nil, zins_c, f3, cat_i, cat_l, cat_r, List.filter_cons, List.filter_nil, Bool.false_eq_true, l_of0, lv_args, Nat.reduceBEq, Nat.reduceAdd, Nat.reduceLeDiff, Nat.reduceLT, Bool.not_true, Bool.not_false, Bool.and_true, Bool.true_and, Bool.and_false, Bool.false_and, Nat.reduceEqDiff, reduceIte, List.contains_cons, List.contains_nil, Bool.or_false, Bool.or_true, Bool.false_or, Bool.true_or, Fin.isValue, Fin.val_zero, Fin.val_one, Fin.val_two, Fin.reduceFinMk, Option.toList_some, Option.toList_none, List.nil_append, List.cons_append, zwt_nil, zwt_i, zwt_l, zwt_r, zthr_nil, List.isEmpty_nil, zcE, ↓ar_k, lgc0, true_and, and_true, true_implies, implies_true, false_implies, forall_const, i_len, ob_0, ob_1, ↓bI_01, bI_0, not_true_eq_false, not_false_eq_true, Bool.not_eq_false, Bool.not_eq_true, ia_add, ia_sub, ia_mul, ia_neg, ↓ldI, ↓ldL, zaI_c, zaL_c, ↓zlen_I, ↓zlen_L, ↓stI, ↓stL, gD_sI, gN_sI, gI_sI, gJ_sI, gR_sI, gA_sI, gB_sI, gT_sI, gD_sJ, gN_sJ, gI_sJ, gJ_sJ, gR_sJ, gA_sJ, gB_sJ, gT_sJ, gD_sR, gN_sR, gI_sR, gJ_sR, gR_sR, gA_sR, gB_sR, gT_sR, gD_sA, gN_sA, gI_sA, gJ_sA, gR_sA, gA_sA, gB_sA, gT_sA, gD_sB, gN_sB, gI_sB, gJ_sB, gR_sB, gA_sB, gB_sB, gT_sB, zx_il0, zx_il1, zx_il2, zx_il3, zx_ll0, zx_ll1, zx_ll2, zx_ll3, zx_al0, zx_al1, zx_al2, zx_al3, e_has, e_bA, e_mn, e_mx, e_pcI, e_pcL, e_low, zml_110, zg110_0, zb110_0, zmc_110, zms_110, zow_110, zhd_110, ↓gf_8_9, ↓gf_9_3, ↓gf_9_5, show (Int8.ofInt 48).toInt32 = Int32.ofInt 48 from rfl, LTown_g (CT_L (QC_T h)), LTown_d (CT_L (QC_T h)), LTown_r6 (CT_L (QC_T h)), LTown_k6 (CT_L (QC_T h)), LTown_n6 (CT_L (QC_T h)), LTown_r7 (CT_L (QC_T h)), LTown_k7 (CT_L (QC_T h)), LTown_n7 (CT_L (QC_T h)), LTown_r8 (CT_L (QC_T h)), LTown_k8 (CT_L (QC_T h)), LTown_n8 (CT_L (QC_T h)), LTown_r9 (CT_L (QC_T h)), LTown_k9 (CT_L (QC_T h)), LTown_n9 (CT_L (QC_T h)), LTown_r10 (CT_L (QC_T h)), LTown_k10 (CT_L (QC_T h)), LTown_n10 (CT_L (QC_T h)), LTown_r11 (CT_L (QC_T h)), LTown_k11 (CT_L (QC_T h)), LTown_n11 (CT_L (QC_T h)), LTown_r12 (CT_L (QC_T h)), LTown_k12 (CT_L (QC_T h)), LTown_n12 (CT_L (QC_T h)), LTown_r13 (CT_L (QC_T h)), LTown_k13 (CT_L (QC_T h)), LTown_n13 (CT_L (QC_T h)), LTown_r14 (CT_L (QC_T h)), LTown_k14 (CT_L (QC_T h)), LTown_n14 (CT_L (QC_T h)), LTown_r15 (CT_L (QC_T h)), LTown_k15 (CT_L (QC_T h)), LTown_n15 (CT_L (QC_T h)), LTown_r16 (CT_L (QC_T h)), LTown_k16 (CT_L (QC_T h)), LTown_n16 (CT_L (QC_T h)), LTown_r17 (CT_L (QC_T h)), LTown_k17 (CT_L (QC_T h)), LTown_n17 (CT_L (QC_T h)), LTown_r18 (CT_L (QC_T h)), LTown_k18 (CT_L (QC_T h)), LTown_n18 (CT_L (QC_T h)), LTraffic_d lT, LTraffic_r1 lT, LTraffic_k1 lT, LTraffic_n1 lT, LTraffic_r2 lT, LTraffic_k2 lT, LTraffic_n2 lT, LTraffic_r3 lT, LTraffic_k3 lT, LTraffic_n3 lT, LTraffic_r4 lT, LTraffic_k4 lT, LTraffic_n4 lT, LTraffic_r5 lT, LTraffic_k5 lT, LTraffic_n5 lT, LTraffic_r6 lT, LTraffic_k6 lT, LTraffic_n6 lT, LTraffic_r7 lT, LTraffic_k7 lT, LTraffic_n7 lT, LTraffic_r8 lT, LTraffic_k8 lT, LTraffic_n8 lT, LTraffic_r9 lT, LTraffic_k9 lT, LTraffic_n9 lT]
  try simp (disch := omega) only [ii_lt, ii_le, ii_eq, ii_eq0, ii_lt0, ii_0lt, ii_le0, ii_0le, i_inT, i_natN, i_nat, ia_div, ia_rem, hs_ofI, i_1shl, i_or, i_bit, true_and, and_true, not_true_eq_false, not_false_eq_true, true_implies, false_implies, implies_true, Int.reduceLT, Int.reduceLE, Int.reduceEq, Int.reduceNeg, Int.toNat_natCast, Int.reduceToNat, Nat.reduceLeDiff, Nat.reduceAdd, tn_2, tn_2p, tn_48, tn_48r, tn_3, tn_3p, tn_3q, tn_p1, tn_d2, tn_12, ia_add, ia_sub, ia_mul, hz]
  try simp only [hz]
  try simp (disch := omega) only [ii_lt, ii_le, ii_eq, ii_eq0, ii_lt0, ii_0lt, ii_le0, ii_0le, i_inT, i_natN, i_nat, ia_div, ia_rem, hs_ofI, i_1shl, i_or, i_bit, true_and, and_true, not_true_eq_false, not_false_eq_true, true_implies, false_implies, implies_true, Int.reduceLT, Int.reduceLE, Int.reduceEq, Int.reduceNeg, Int.toNat_natCast, Int.reduceToNat, Nat.reduceLeDiff, Nat.reduceAdd, tn_2, tn_2p, tn_48, tn_48r, tn_3, tn_3p, tn_3q, tn_p1, tn_d2, tn_12, ia_add, ia_sub, ia_mul, hpk]
  try simp only [hpk]
  try simp (disch := omega) only [ii_lt, ii_le, ii_eq, ii_eq0, ii_lt0, ii_0lt, ii_le0, ii_0le, i_inT, i_natN, i_nat, ia_div, ia_rem, hs_ofI, i_1shl, i_or, i_bit, true_and, and_true, not_true_eq_false, not_false_eq_true, true_implies, false_implies, implies_true, Int.reduceLT, Int.reduceLE, Int.reduceEq, Int.reduceNeg, Int.toNat_natCast, Int.reduceToNat, Nat.reduceLeDiff, Nat.reduceAdd, tn_2, tn_2p, tn_48, tn_48r, tn_3, tn_3p, tn_3q, tn_p1, tn_d2, tn_12, ia_add, ia_sub, ia_mul, he]
  try simp only [he]
