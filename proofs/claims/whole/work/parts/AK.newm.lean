/-! THE REFERENCE'S CONSTRUCTOR -/
def nW (s : zS) (n m : Nat) : zS := (fun b => if b = gT s then 3 else if gT s < b ∧ b ≤ gT s + n then 1 else gD s b, fun b => if b = gT s then n else if gT s < b ∧ b ≤ gT s + n then m else gN s b, gI s, gJ s, gR s, fun b => if gT s < b ∧ b ≤ gT s + n then fun _ => 0 else gA s b, gB s, gT s + 1 + n)
theorem new_R {s : zS} {n m : Nat} : zrows (hOf s) n m = hOf (nW s n m) := by
  refine zH_ext (fun a => ?_) rfl
  show (if a = gT s then _ else if gT s < a ∧ a ≤ gT s + n then _ else cel s a) = cel (nW s n m) a
  by_cases e : a = gT s
  · rw [if_pos e]
    have h1 : gD (nW s n m) a = 3 := by
      show (if a = gT s then 3 else _) = _
      rw [if_pos e]
    have h2 : gN (nW s n m) a = n := by
      show (if a = gT s then n else _) = _
      rw [if_pos e]
    rw [cel_R h1, h2, e]
    rfl
  · rw [if_neg e]
    by_cases e2 : gT s < a ∧ a ≤ gT s + n
    · rw [if_pos e2]
      have h1 : gD (nW s n m) a = 1 := by
        show (if a = gT s then 3 else if gT s < a ∧ a ≤ gT s + n then 1 else gD s a) = _
        rw [if_neg e, if_pos e2]
      have h2 : gN (nW s n m) a = m := by
        show (if a = gT s then n else if gT s < a ∧ a ≤ gT s + n then m else gN s a) = _
        rw [if_neg e, if_pos e2]
      have h3 : gA (nW s n m) a = fun _ => 0 := by
        show (if gT s < a ∧ a ≤ gT s + n then fun _ => 0 else gA s a) = _
        rw [if_pos e2]
      rw [cel_I h1, h2, h3]
    · rw [if_neg e2]
      have h1 : gD (nW s n m) a = gD s a := by
        show (if a = gT s then 3 else if gT s < a ∧ a ≤ gT s + n then 1 else gD s a) = _
        rw [if_neg e, if_neg e2]
      have h2 : gN (nW s n m) a = gN s a := by
        show (if a = gT s then n else if gT s < a ∧ a ≤ gT s + n then m else gN s a) = _
        rw [if_neg e, if_neg e2]
      have h3 : gA (nW s n m) a = gA s a := by
        show (if gT s < a ∧ a ≤ gT s + n then fun _ => 0 else gA s a) = _
        rw [if_neg e2]
      unfold cel
      rw [h1, h2, h3]
      rfl
theorem uc_rows {s : zS} {p q c n m : Nat} {vs : List Value} {x : zC} (hq : q < gT s) (hp : p < gT s) : zrows (uc s p x q c vs) n m = uc (nW s n m) p x q c vs := by
  have e1 : ∀ a, (zrows (hOf s) n m).1 a = cel (nW s n m) a := fun a => congrFun (congrArg Prod.fst (new_R (s := s) (n := n) (m := m))) a
  refine zH_ext (fun a => ?_) rfl
  have e2 := e1 a
  have e2 : (if a = gT s then _ else if gT s < a ∧ a ≤ gT s + n then _ else cel s a) = cel (nW s n m) a := e2
  show (if a = gT s then _ else if gT s < a ∧ a ≤ gT s + n then _ else if a = q then _ else if a = p then x else cel s a) = (if a = q then _ else if a = p then x else cel (nW s n m) a)
  rw [← e2]
  by_cases c1 : a = q
  · rw [if_neg (by omega), if_neg (by omega), if_pos c1, if_pos c1]
  · by_cases c2 : a = p
    · rw [if_neg (by omega), if_neg (by omega), if_neg c1, if_pos c2, if_neg c1, if_pos c2]
    · rw [if_neg c1, if_neg c2, if_neg c1, if_neg c2]
      rfl
theorem zx_ucR {P : Nat → zM} {C : Nat → List Value → zH → zQ → Prop} {k : Nat} {J : Nat → zK} {Q : zQ} {K : zK} {pc len a b i1 i2 : Nat} {d : Int} {L : zL} {S : List Value} {s : zS} {kc ks p q c : Nat} {x : zC} {vs : List Value} {n z : Int32} (hq : q < gT s) (hp : p < gT s) : zstp P C k J Q (pc, .multianewarray i1 i2, len, a, b, d) K L (.int z :: .int n :: S) (uc s p x q c vs) kc ks = (¬ n < 0 ∧ ¬ z < 0 ∧ n.toNatClampNeg ≤ 1000000 ∧ z.toNatClampNeg ≤ 1000000 ∧ kc + (1 + n.toNatClampNeg) ≤ zmc (P k) ∧ ks + (n.toNatClampNeg + n.toNatClampNeg * z.toNatClampNeg) ≤ zms (P k) ∧ K L (.ref (gT s) :: S) (uc (nW s n.toNatClampNeg z.toNatClampNeg) p x q c vs) (kc + 1 + n.toNatClampNeg) (ks + n.toNatClampNeg + n.toNatClampNeg * z.toNatClampNeg)) := by
  rw [← uc_rows hq hp]
  rfl
theorem lt_nW {s : zS} {q n m : Nat} (h : q < gT s) : (q < gT (nW s n m)) = True := eq_true (show q < gT s + 1 + n by omega)
/-- the only object under construction is done -/
theorem uc_fin {s : zS} {p d : Nat} {y : zC} {ws : List Value} {I : Nat → Int32} {J : Nat → Int64} {R : Nat → Nat} (h : fls (fin s p d I J R) p d = ws) : uc s p y p d ws = hOf (fin s p d I J R) := by
  refine zH_ext (fun a => ?_) rfl
  show (if a = p then _ else if a = p then _ else cel s a) = cel (fin s p d I J R) a
  by_cases c1 : a = p
  · rw [if_pos c1, c1, cel_fin_s h]
  · rw [if_neg c1, if_neg c1, cel_fin c1]
theorem uc_of {s : zS} {a : Nat} {vs : List Value} : znew (hOf s) (.inr (a + 1, vs)) = uc (nX s) (gT s) (.inr (0, [])) (gT s) a vs := by
  refine zH_ext (fun i => ?_) rfl
  show (if i = gT s then _ else cel s i) = (if i = gT s then _ else if i = gT s then _ else cel (nX s) i)
  by_cases c1 : i = gT s
  · rw [if_pos c1, if_pos c1]
  · rw [if_neg c1, if_neg c1, if_neg c1]
    have h1 : gD (nX s) i = gD s i := by
      show (if i = gT s then 0 else gD s i) = _
      rw [if_neg c1]
    unfold cel
    rw [h1]
    rfl
theorem fin_I {s : zS} {q c : Nat} {I : Nat → Int32} {J : Nat → Int64} {R : Nat → Nat} : gI (fin s q c I J R) q = I := if_pos rfl
theorem fin_J {s : zS} {q c : Nat} {I : Nat → Int32} {J : Nat → Int64} {R : Nat → Nat} : gJ (fin s q c I J R) q = J := if_pos rfl
theorem fin_R {s : zS} {q c : Nat} {I : Nat → Int32} {J : Nat → Int64} {R : Nat → Nat} : gR (fin s q c I J R) q = R := if_pos rfl
def M203 (s : zS) : zS := nB (nB (nA (nA (nA (nW (nA (nW (nW (nA (nA (nA (nA (nA (nA (nW (nA (nA (nW (nA (nB (nB (nA (nA (nW (nW (nA (nA (nW (nW (nW (nW (nW (nW (nA (nA (nA s 500) 4) 4) 16 2) 16 2) 24 4) 24 4) 12 3) 12 3) 24) 24) 201 24) 201 24) 24) 24) 48) 48) 48) 576 2) 12) 14) 12 48) 12) 12) 12) 12) 12) 12) 3 10000) 48 1024) 11) 11 11) 2048) 48) 48) 48) 48
def I203 (k : Nat) : Int32 := if k = 3 then Int32.ofInt (-1) else if k = 54 then Int32.ofInt (-1) else 0
def R203 (k : Nat) : Nat := ([0, 0, 0, 0, 0, 0, 0, 0, 89, 90, 91, 92, 109, 126, 151, 176, 189, 202, 203, 0, 204, 406, 608, 609, 610, 611, 612, 0, 0, 0, 613, 1190, 1191, 0, 0, 0, 1192, 1205, 1206, 1207, 1208, 1209, 1210, 0, 1211, 0, 1215, 1264, 1265, 1277, 1278, 1279, 1280, 1281, 0, 0, 0, 0, 0, 0] : List Nat).getD k 0
def N203 (s : zS) : zS := fin (M203 s) 88 11 I203 (fun _ => 0) R203
theorem zd11 : zdfs 11 = [.int 0, .int 0, .int 0, .int 0, .int 0, .int 0, .int 0, .int 0, .null, .null, .null, .null, .null, .null, .null, .null, .null, .null, .null, .int 0, .null, .null, .null, .null, .null, .null, .null, .int 0, .int 0, .int 0, .null, .null, .null, .int 0, .int 0, .int 0, .null, .null, .null, .null, .null, .null, .null, .int 0, .null, .int 0, .null, .null, .null, .null, .null, .null, .null, .null, .int 0, .int 0, .int 0, .long 0, .int 0, .int 0] := by rfl
theorem zl11 : (List.range (zsz.getD 11 0)).map (fun k => match zty 11 k with
  | .int => Value.int (I203 k)
  | .long => Value.long 0
  | _ => Value.ref (R203 k)) = [.int 0, .int 0, .int 0, .int (Int32.ofInt (-1)), .int 0, .int 0, .int 0, .int 0, .ref 89, .ref 90, .ref 91, .ref 92, .ref 109, .ref 126, .ref 151, .ref 176, .ref 189, .ref 202, .ref 203, .int 0, .ref 204, .ref 406, .ref 608, .ref 609, .ref 610, .ref 611, .ref 612, .int 0, .int 0, .int 0, .ref 613, .ref 1190, .ref 1191, .int 0, .int 0, .int 0, .ref 1192, .ref 1205, .ref 1206, .ref 1207, .ref 1208, .ref 1209, .ref 1210, .int 0, .ref 1211, .int 0, .ref 1215, .ref 1264, .ref 1265, .ref 1277, .ref 1278, .ref 1279, .ref 1280, .ref 1281, .int (Int32.ofInt (-1)), .int 0, .int 0, .long 0, .int 0, .int 0] := by rfl
theorem gTA {s : zS} {n : Nat} : gT (nA s n) = gT s + 1 := rfl
theorem gTB {s : zS} {n : Nat} : gT (nB s n) = gT s + 1 := rfl
theorem gTX {s : zS} : gT (nX s) = gT s + 1 := rfl
theorem gTW {s : zS} {n m : Nat} : gT (nW s n m) = gT s + 1 + n := rfl
set_option maxRecDepth 100000 in
theorem u_new203 {s : zS} {Q : zQ} (hg : gT s = 89) (hQ : Q (.inl none) (hOf (N203 s))) : zW zP 203 [.ref 88] (uc s 88 (.inr (0, [])) 88 11 (zdfs 11)) Q := by
  have hq : 88 < gT s := by omega
  have fin2 : ∀ ws, fls (fin (M203 s) 88 11 I203 (fun _ => 0) R203) 88 11 = ws → Q (.inl none) (uc (M203 s) 88 (.inr (0, [])) 88 11 ws) := fun ws e => by
    rw [uc_fin e]
    exact hQ
  rw [zWE]
  simp (maxDischargeDepth := 80) -implicitDefEqProofs only [zx_iconst, zx_bipush, zx_sipush, zx_lconst, zx_ldc, zx_ldcS, zx_ldc_w, zx_ldc2_w, zx_iload, zx_lload, zx_aload, zx_istore_n, zx_istore, zx_lstore_n, zx_lstore, zx_astore_n, zx_astore, zx_iinc, zx_iadd, zx_isub, zx_imul, zx_iand, zx_ior, zx_ixor, zx_ishl, zx_ishr, zx_iushr, zx_idiv, zx_irem, zx_ineg, zx_ladd, zx_lsub, zx_land, zx_lor, zx_lxor, zx_lneg, zx_lshl, zx_lushr, zx_i2l, zx_l2i, zx_lcmp, zx_dup, zx_dup2, zx_pop, zx_goto, zx_if_eq, zx_if_ne, zx_if_lt, zx_if_ge, zx_if_gt, zx_if_le, zx_icmp_eq, zx_icmp_ne, zx_icmp_lt, zx_icmp_ge, zx_icmp_gt, zx_icmp_le, zx_getfield, zx_putfield, zx_iaload, zx_laload, zx_aaload, zx_iastore, zx_lastore, zx_arraylength, zx_ireturn, zx_lreturn, zx_areturn, zx_return, zx_athrow, zx_static0, zx_static1, zx_virt1, zx_static2, zx_virt2, zx_static3, zx_virt3, zx_static4, zx_virt4, zx_static5, zx_virt5, zx_static6, zx_virt6, zx_static7, zx_virt7, zx_cpI, zx_cpL, ↓cpI, ↓cpL, zx_slen, zx_schr, zx_tsw, zx_spec3, new_X, zx_new1, zrun_nil, zrun_cons, ↓zgi_h, ↓zgi_n, ↓zgl_h, ↓zgl_n, ↓zgr_h, ↓zgr_n, zset1, zset2, zins_nil, zins_c, f3, cat_i, cat_l, cat_r, List.filter_cons, List.filter_nil, Bool.false_eq_true, l_of0, lv_args, Nat.reduceBEq, Nat.reduceAdd, Nat.reduceLeDiff, Nat.reduceLT, Bool.not_true, Bool.not_false, Bool.and_true, Bool.true_and, Bool.and_false, Bool.false_and, Nat.reduceEqDiff, reduceIte, List.contains_cons, List.contains_nil, Bool.or_false, Bool.or_true, Bool.false_or, Bool.true_or, Fin.isValue, Fin.val_zero, Fin.val_one, Fin.val_two, Fin.reduceFinMk, Option.toList_some, Option.toList_none, List.nil_append, List.cons_append, zwt_nil, zwt_i, zwt_l, zwt_r, zthr_nil, List.isEmpty_nil, zcE, ↓ar_k, lgc0, true_and, and_true, true_implies, implies_true, false_implies, forall_const, i_len, ob_0, ob_1, ↓bI_01, bI_0, not_true_eq_false, not_false_eq_true, Bool.not_eq_false, Bool.not_eq_true, ia_add, ia_sub, ia_mul, ia_neg, ↓ldI, ↓ldL, zaI_c, zaL_c, ↓zlen_I, ↓zlen_L, ↓stI, ↓stL, gD_sI, gN_sI, gI_sI, gJ_sI, gR_sI, gA_sI, gB_sI, gT_sI, gD_sJ, gN_sJ, gI_sJ, gJ_sJ, gR_sJ, gA_sJ, gB_sJ, gT_sJ, gD_sR, gN_sR, gI_sR, gJ_sR, gR_sR, gA_sR, gB_sR, gT_sR, gD_sA, gN_sA, gI_sA, gJ_sA, gR_sA, gA_sA, gB_sA, gT_sA, gD_sB, gN_sB, gI_sB, gJ_sB, gR_sB, gA_sB, gB_sB, gT_sB, zx_il0, zx_il1, zx_il2, zx_il3, zx_ll0, zx_ll1, zx_ll2, zx_ll3, zx_al0, zx_al1, zx_al2, zx_al3, e_has, e_bA, e_mn, e_mx, e_pcI, e_pcL, e_low, tc0, tc1, tc2, tc3, vc0_2, vc1_2, vc0_3, vc1_3, vc2_3, vc0_4, vc1_4, vc2_4, vc3_4, m_in, i10, i20, i00, i11, true_or, false_or, Bool.true_eq_false, eq_self, zml_203, zg203_0, zb203_0, zmc_203, zms_203, zow_203, zhd_203, ↓pp_11_10, ↓pp_11_11, ↓pp_11_12, ↓pp_11_13, ↓pp_11_14, ↓pp_11_15, ↓pp_11_16, ↓pp_11_17, ↓pp_11_18, ↓pp_11_20, ↓pp_11_21, ↓pp_11_22, ↓pp_11_23, ↓pp_11_24, ↓pp_11_25, ↓pp_11_26, ↓pp_11_3, ↓pp_11_30, ↓pp_11_31, ↓pp_11_32, ↓pp_11_36, ↓pp_11_37, ↓pp_11_38, ↓pp_11_39, ↓pp_11_40, ↓pp_11_41, ↓pp_11_42, ↓pp_11_44, ↓pp_11_46, ↓pp_11_47, ↓pp_11_48, ↓pp_11_49, ↓pp_11_50, ↓pp_11_51, ↓pp_11_52, ↓pp_11_53, ↓pp_11_54, ↓pp_11_8, ↓pp_11_9, ↓pq_11_10, ↓pq_11_11, ↓pq_11_12, ↓pq_11_13, ↓pq_11_14, ↓pq_11_15, ↓pq_11_16, ↓pq_11_17, ↓pq_11_18, ↓pq_11_20, ↓pq_11_21, ↓pq_11_22, ↓pq_11_23, ↓pq_11_24, ↓pq_11_25, ↓pq_11_26, ↓pq_11_3, ↓pq_11_30, ↓pq_11_31, ↓pq_11_32, ↓pq_11_36, ↓pq_11_37, ↓pq_11_38, ↓pq_11_39, ↓pq_11_40, ↓pq_11_41, ↓pq_11_42, ↓pq_11_44, ↓pq_11_46, ↓pq_11_47, ↓pq_11_48, ↓pq_11_49, ↓pq_11_50, ↓pq_11_51, ↓pq_11_52, ↓pq_11_53, ↓pq_11_54, ↓pq_11_8, ↓pq_11_9, ↓pw_11_10, ↓pw_11_11, ↓pw_11_12, ↓pw_11_13, ↓pw_11_14, ↓pw_11_15, ↓pw_11_16, ↓pw_11_17, ↓pw_11_18, ↓pw_11_20, ↓pw_11_21, ↓pw_11_22, ↓pw_11_23, ↓pw_11_24, ↓pw_11_25, ↓pw_11_26, ↓pw_11_3, ↓pw_11_30, ↓pw_11_31, ↓pw_11_32, ↓pw_11_36, ↓pw_11_37, ↓pw_11_38, ↓pw_11_39, ↓pw_11_40, ↓pw_11_41, ↓pw_11_42, ↓pw_11_44, ↓pw_11_46, ↓pw_11_47, ↓pw_11_48, ↓pw_11_49, ↓pw_11_50, ↓pw_11_51, ↓pw_11_52, ↓pw_11_53, ↓pw_11_54, ↓pw_11_8, ↓pw_11_9, show (Int16.ofInt 10000).toInt32 = Int32.ofInt 10000 from rfl, show (Int16.ofInt 1024).toInt32 = Int32.ofInt 1024 from rfl, show (Int16.ofInt 201).toInt32 = Int32.ofInt 201 from rfl, show (Int16.ofInt 2048).toInt32 = Int32.ofInt 2048 from rfl, show (Int16.ofInt 500).toInt32 = Int32.ofInt 500 from rfl, show (Int16.ofInt 576).toInt32 = Int32.ofInt 576 from rfl, show (Int8.ofInt 11).toInt32 = Int32.ofInt 11 from rfl, show (Int8.ofInt 12).toInt32 = Int32.ofInt 12 from rfl, show (Int8.ofInt 14).toInt32 = Int32.ofInt 14 from rfl, show (Int8.ofInt 16).toInt32 = Int32.ofInt 16 from rfl, show (Int8.ofInt 24).toInt32 = Int32.ofInt 24 from rfl, show (Int8.ofInt 48).toInt32 = Int32.ofInt 48 from rfl, zx_ucA, zx_ucB, zx_ucR, uc_ob, uc_up, lt_nA, lt_nB, lt_nW, hq, List.length_set, Nat.reduceMul, show (zdfs 11).length = 60 from rfl, show ∀ x, zfit (zty 11 8) (Value.ref x) = true from fun _ => rfl, show ∀ x, zfit (zty 11 9) (Value.ref x) = true from fun _ => rfl, show ∀ x, zfit (zty 11 10) (Value.ref x) = true from fun _ => rfl, show ∀ x, zfit (zty 11 11) (Value.ref x) = true from fun _ => rfl, show ∀ x, zfit (zty 11 12) (Value.ref x) = true from fun _ => rfl, show ∀ x, zfit (zty 11 13) (Value.ref x) = true from fun _ => rfl, show ∀ x, zfit (zty 11 14) (Value.ref x) = true from fun _ => rfl, show ∀ x, zfit (zty 11 15) (Value.ref x) = true from fun _ => rfl, show ∀ x, zfit (zty 11 16) (Value.ref x) = true from fun _ => rfl, show ∀ x, zfit (zty 11 17) (Value.ref x) = true from fun _ => rfl, show ∀ x, zfit (zty 11 18) (Value.ref x) = true from fun _ => rfl, show ∀ x, zfit (zty 11 20) (Value.ref x) = true from fun _ => rfl, show ∀ x, zfit (zty 11 21) (Value.ref x) = true from fun _ => rfl, show ∀ x, zfit (zty 11 22) (Value.ref x) = true from fun _ => rfl, show ∀ x, zfit (zty 11 23) (Value.ref x) = true from fun _ => rfl, show ∀ x, zfit (zty 11 24) (Value.ref x) = true from fun _ => rfl, show ∀ x, zfit (zty 11 25) (Value.ref x) = true from fun _ => rfl, show ∀ x, zfit (zty 11 26) (Value.ref x) = true from fun _ => rfl, show ∀ x, zfit (zty 11 30) (Value.ref x) = true from fun _ => rfl, show ∀ x, zfit (zty 11 31) (Value.ref x) = true from fun _ => rfl, show ∀ x, zfit (zty 11 32) (Value.ref x) = true from fun _ => rfl, show ∀ x, zfit (zty 11 36) (Value.ref x) = true from fun _ => rfl, show ∀ x, zfit (zty 11 37) (Value.ref x) = true from fun _ => rfl, show ∀ x, zfit (zty 11 38) (Value.ref x) = true from fun _ => rfl, show ∀ x, zfit (zty 11 39) (Value.ref x) = true from fun _ => rfl, show ∀ x, zfit (zty 11 40) (Value.ref x) = true from fun _ => rfl, show ∀ x, zfit (zty 11 41) (Value.ref x) = true from fun _ => rfl, show ∀ x, zfit (zty 11 42) (Value.ref x) = true from fun _ => rfl, show ∀ x, zfit (zty 11 44) (Value.ref x) = true from fun _ => rfl, show ∀ x, zfit (zty 11 46) (Value.ref x) = true from fun _ => rfl, show ∀ x, zfit (zty 11 47) (Value.ref x) = true from fun _ => rfl, show ∀ x, zfit (zty 11 48) (Value.ref x) = true from fun _ => rfl, show ∀ x, zfit (zty 11 49) (Value.ref x) = true from fun _ => rfl, show ∀ x, zfit (zty 11 50) (Value.ref x) = true from fun _ => rfl, show ∀ x, zfit (zty 11 51) (Value.ref x) = true from fun _ => rfl, show ∀ x, zfit (zty 11 52) (Value.ref x) = true from fun _ => rfl, show ∀ x, zfit (zty 11 53) (Value.ref x) = true from fun _ => rfl, show ∀ x, zfit (zty 11 3) (Value.int x) = true from fun _ => rfl, show ∀ x, zfit (zty 11 54) (Value.int x) = true from fun _ => rfl, show (Int32.ofInt 2).toNatClampNeg = 2 from rfl, show (Int32.ofInt 3).toNatClampNeg = 3 from rfl, show (Int32.ofInt 4).toNatClampNeg = 4 from rfl, show (Int32.ofInt 11).toNatClampNeg = 11 from rfl, show (Int32.ofInt 12).toNatClampNeg = 12 from rfl, show (Int32.ofInt 14).toNatClampNeg = 14 from rfl, show (Int32.ofInt 16).toNatClampNeg = 16 from rfl, show (Int32.ofInt 24).toNatClampNeg = 24 from rfl, show (Int32.ofInt 48).toNatClampNeg = 48 from rfl, show (Int32.ofInt 201).toNatClampNeg = 201 from rfl, show (Int32.ofInt 500).toNatClampNeg = 500 from rfl, show (Int32.ofInt 576).toNatClampNeg = 576 from rfl, show (Int32.ofInt 1024).toNatClampNeg = 1024 from rfl, show (Int32.ofInt 2048).toNatClampNeg = 2048 from rfl, show (Int32.ofInt 10000).toNatClampNeg = 10000 from rfl]
  try simp (disch := omega) only [ii_lt, ii_le, ii_eq, ii_eq0, ii_lt0, ii_0lt, ii_le0, ii_0le, i_inT, i_natN, i_nat, ia_div, ia_rem, hs_ofI, i_1shl, i_or, i_bit, true_and, and_true, not_true_eq_false, not_false_eq_true, true_implies, false_implies, implies_true, Int.reduceLT, Int.reduceLE, Int.reduceEq, Int.reduceNeg, Int.toNat_natCast, Int.reduceToNat, Nat.reduceLeDiff, Nat.reduceAdd, tn_2, tn_2p, tn_48, tn_48r, tn_3, tn_3p, tn_3q, tn_p1, tn_d2, tn_12, ia_add, ia_sub, ia_mul]
  simp only [zd11, List.set_cons_zero, List.set_cons_succ, gTA, gTB, gTW, hg, Nat.reduceAdd]
  refine fin2 _ ?_
  unfold fls
  rw [show (fvl (fin (M203 s) 88 11 I203 (fun _ => 0) R203) 88 11) = (fun k => match zty 11 k with
    | .int => Value.int (I203 k)
    | .long => Value.long 0
    | _ => Value.ref (R203 k)) from by
      funext k
      unfold fvl
      rw [fin_I, fin_J, fin_R]
      generalize zty 11 k = t
      cases t <;> rfl]
  exact zl11
