/-! THE SMALL MACHINE BY EQUATIONS -/
section ZX
variable {P : Nat → zM} {C : Nat → List Value → zH → zQ → Prop} {k : Nat} {J : Nat → zK} {Q : zQ} {K : zK} {pc len a b : Nat} {d : Int} {L : zL} {S : List Value} {h : zH} {kc ks : Nat}
theorem zx_iconst {n : Int} : zstp P C k J Q (pc, .iconst n, len, a, b, d) K L S h kc ks = (K L (.int (Int32.ofInt n) :: S) h kc ks) := rfl
theorem zx_bipush {n : Int} : zstp P C k J Q (pc, .bipush n, len, a, b, d) K L S h kc ks = (K L (.int (Int8.ofInt n).toInt32 :: S) h kc ks) := rfl
theorem zx_sipush {n : Int} : zstp P C k J Q (pc, .sipush n, len, a, b, d) K L S h kc ks = (K L (.int (Int16.ofInt n).toInt32 :: S) h kc ks) := rfl
theorem zx_lconst {n : Fin 2} : zstp P C k J Q (pc, .lconst n, len, a, b, d) K L S h kc ks = (K L (.long (Int64.ofNat (n : Nat)) :: S) h kc ks) := rfl
theorem zx_ldc {n : Nat} : zstp P C k J Q (pc, .ldc n, len, 0, b, d) K L S h kc ks = K L (.int (Int32.ofInt d) :: S) h kc ks := rfl
theorem zx_ldcS {n : Nat} : zstp P C k J Q (pc, .ldc n, len, 1, b, d) K L S h kc ks = K L (.ref b :: S) h kc ks := rfl
theorem zx_ldc_w {n : Nat} : zstp P C k J Q (pc, .ldc_w n, len, a, b, d) K L S h kc ks = (K L (.int (Int32.ofInt d) :: S) h kc ks) := rfl
theorem zx_ldc2_w {n : Nat} : zstp P C k J Q (pc, .ldc2_w n, len, a, b, d) K L S h kc ks = (K L (.long (Int64.ofInt d) :: S) h kc ks) := rfl
theorem zx_iload_n {n : Fin 4} : zstp P C k J Q (pc, .iload_n n, len, a, b, d) K L S h kc ks = (zgi L n fun x => K L (.int x :: S) h kc ks) := rfl
theorem zx_iload {n : Nat} : zstp P C k J Q (pc, .iload n, len, a, b, d) K L S h kc ks = (zgi L n fun x => K L (.int x :: S) h kc ks) := rfl
theorem zx_lload_n {n : Fin 4} : zstp P C k J Q (pc, .lload_n n, len, a, b, d) K L S h kc ks = (zgl L n fun x => K L (.long x :: S) h kc ks) := rfl
theorem zx_lload {n : Nat} : zstp P C k J Q (pc, .lload n, len, a, b, d) K L S h kc ks = (zgl L n fun x => K L (.long x :: S) h kc ks) := rfl
theorem zx_aload_n {n : Fin 4} : zstp P C k J Q (pc, .aload_n n, len, a, b, d) K L S h kc ks = (zgr L n fun x => K L (.ref x :: S) h kc ks) := rfl
theorem zx_aload {n : Nat} : zstp P C k J Q (pc, .aload n, len, a, b, d) K L S h kc ks = (zgr L n fun x => K L (.ref x :: S) h kc ks) := rfl
theorem zx_istore_n {n : Fin 4} {x : Int32} : zstp P C k J Q (pc, .istore_n n, len, a, b, d) K L (.int x :: S) h kc ks = (K (zset1 L n (.int x)) S h kc ks) := rfl
theorem zx_istore {n : Nat} {x : Int32} : zstp P C k J Q (pc, .istore n, len, a, b, d) K L (.int x :: S) h kc ks = (K (zset1 L n (.int x)) S h kc ks) := rfl
theorem zx_lstore_n {n : Fin 4} {x : Int64} : zstp P C k J Q (pc, .lstore_n n, len, a, b, d) K L (.long x :: S) h kc ks = (K (zset2 L n (.long x)) S h kc ks) := rfl
theorem zx_lstore {n : Nat} {x : Int64} : zstp P C k J Q (pc, .lstore n, len, a, b, d) K L (.long x :: S) h kc ks = (K (zset2 L n (.long x)) S h kc ks) := rfl
theorem zx_astore_n {n : Fin 4} {x : Nat} : zstp P C k J Q (pc, .astore_n n, len, a, b, d) K L (.ref x :: S) h kc ks = (K (zset1 L n (.ref x)) S h kc ks) := rfl
theorem zx_astore {n : Nat} {x : Nat} : zstp P C k J Q (pc, .astore n, len, a, b, d) K L (.ref x :: S) h kc ks = (K (zset1 L n (.ref x)) S h kc ks) := rfl
theorem zx_iinc {n : Nat} {z : Int} : zstp P C k J Q (pc, .iinc n z, len, a, b, d) K L S h kc ks = (zgi L n fun x => K (zset1 L n (.int (x + Int32.ofInt z))) S h kc ks) := rfl
theorem zx_iadd {x y : Int32} : zstp P C k J Q (pc, .iadd, len, a, b, d) K L (.int y :: .int x :: S) h kc ks = (K L (.int (x + y) :: S) h kc ks) := rfl
theorem zx_isub {x y : Int32} : zstp P C k J Q (pc, .isub, len, a, b, d) K L (.int y :: .int x :: S) h kc ks = (K L (.int (x - y) :: S) h kc ks) := rfl
theorem zx_imul {x y : Int32} : zstp P C k J Q (pc, .imul, len, a, b, d) K L (.int y :: .int x :: S) h kc ks = (K L (.int (x * y) :: S) h kc ks) := rfl
theorem zx_iand {x y : Int32} : zstp P C k J Q (pc, .iand, len, a, b, d) K L (.int y :: .int x :: S) h kc ks = (K L (.int (x &&& y) :: S) h kc ks) := rfl
theorem zx_ior {x y : Int32} : zstp P C k J Q (pc, .ior, len, a, b, d) K L (.int y :: .int x :: S) h kc ks = (K L (.int (x ||| y) :: S) h kc ks) := rfl
theorem zx_ixor {x y : Int32} : zstp P C k J Q (pc, .ixor, len, a, b, d) K L (.int y :: .int x :: S) h kc ks = (K L (.int (x ^^^ y) :: S) h kc ks) := rfl
theorem zx_ishl {x y : Int32} : zstp P C k J Q (pc, .ishl, len, a, b, d) K L (.int y :: .int x :: S) h kc ks = (K L (.int (x <<< (y &&& 31)) :: S) h kc ks) := rfl
theorem zx_ishr {x y : Int32} : zstp P C k J Q (pc, .ishr, len, a, b, d) K L (.int y :: .int x :: S) h kc ks = (K L (.int (x >>> (y &&& 31)) :: S) h kc ks) := rfl
theorem zx_iushr {x y : Int32} : zstp P C k J Q (pc, .iushr, len, a, b, d) K L (.int y :: .int x :: S) h kc ks = (K L (.int ((x.toUInt32 >>> (y.toUInt32 &&& Int32.toUInt32 31)).toInt32) :: S) h kc ks) := rfl
theorem zx_idiv {x y : Int32} : zstp P C k J Q (pc, .idiv, len, a, b, d) K L (.int y :: .int x :: S) h kc ks = (¬ y = 0 ∧ K L (.int (x / y) :: S) h kc ks) := rfl
theorem zx_irem {x y : Int32} : zstp P C k J Q (pc, .irem, len, a, b, d) K L (.int y :: .int x :: S) h kc ks = (¬ y = 0 ∧ K L (.int (x - x / y * y) :: S) h kc ks) := rfl
theorem zx_ineg {x : Int32} : zstp P C k J Q (pc, .ineg, len, a, b, d) K L (.int x :: S) h kc ks = (K L (.int (-x) :: S) h kc ks) := rfl
theorem zx_ladd {x y : Int64} : zstp P C k J Q (pc, .ladd, len, a, b, d) K L (.long y :: .long x :: S) h kc ks = (K L (.long (x + y) :: S) h kc ks) := rfl
theorem zx_lsub {x y : Int64} : zstp P C k J Q (pc, .lsub, len, a, b, d) K L (.long y :: .long x :: S) h kc ks = (K L (.long (x - y) :: S) h kc ks) := rfl
theorem zx_land {x y : Int64} : zstp P C k J Q (pc, .land, len, a, b, d) K L (.long y :: .long x :: S) h kc ks = (K L (.long (x &&& y) :: S) h kc ks) := rfl
theorem zx_lor {x y : Int64} : zstp P C k J Q (pc, .lor, len, a, b, d) K L (.long y :: .long x :: S) h kc ks = (K L (.long (x ||| y) :: S) h kc ks) := rfl
theorem zx_lxor {x y : Int64} : zstp P C k J Q (pc, .lxor, len, a, b, d) K L (.long y :: .long x :: S) h kc ks = (K L (.long (x ^^^ y) :: S) h kc ks) := rfl
theorem zx_lneg {x : Int64} : zstp P C k J Q (pc, .lneg, len, a, b, d) K L (.long x :: S) h kc ks = (K L (.long (-x) :: S) h kc ks) := rfl
theorem zx_lshl {x : Int64} {y : Int32} : zstp P C k J Q (pc, .lshl, len, a, b, d) K L (.int y :: .long x :: S) h kc ks = (K L (.long (x <<< (y.toInt64 &&& 63)) :: S) h kc ks) := rfl
theorem zx_lushr {x : Int64} {y : Int32} : zstp P C k J Q (pc, .lushr, len, a, b, d) K L (.int y :: .long x :: S) h kc ks = (K L (.long (x.toUInt64 >>> (y.toInt64.toUInt64 &&& Int64.toUInt64 63)).toInt64 :: S) h kc ks) := rfl
theorem zx_i2l {x : Int32} : zstp P C k J Q (pc, .i2l, len, a, b, d) K L (.int x :: S) h kc ks = (K L (.long x.toInt64 :: S) h kc ks) := rfl
theorem zx_l2i {x : Int64} : zstp P C k J Q (pc, .l2i, len, a, b, d) K L (.long x :: S) h kc ks = (K L (.int x.toInt32 :: S) h kc ks) := rfl
theorem zx_lcmp {x y : Int64} : zstp P C k J Q (pc, .lcmp, len, a, b, d) K L (.long y :: .long x :: S) h kc ks = (K L (.int (lg_cmp x y) :: S) h kc ks) := rfl
theorem zx_dup {v : Value} : zstp P C k J Q (pc, .dup, len, a, b, d) K L (v :: S) h kc ks = (v.category = 1 ∧ K L (v :: v :: S) h kc ks) := rfl
theorem zx_dup2 {v w : Value} : zstp P C k J Q (pc, .dup2, len, a, b, d) K L (v :: w :: S) h kc ks = (v.category = 1 ∧ w.category = 1 ∧ K L (v :: w :: v :: w :: S) h kc ks) := rfl
theorem zx_pop {v : Value} : zstp P C k J Q (pc, .pop, len, a, b, d) K L (v :: S) h kc ks = (v.category = 1 ∧ K L S h kc ks) := rfl
theorem zx_goto {off : Int} : zstp P C k J Q (pc, .goto off, len, a, b, d) K L S h kc ks = (J (ztg pc off) L S h kc ks) := rfl
theorem zx_if_eq {off : Int} {x : Int32} : zstp P C k J Q (pc, .ifCond .eq off, len, a, b, d) K L (.int x :: S) h kc ks = ((x = 0 → J (ztg pc off) L S h kc ks) ∧ (¬ x = 0 → K L S h kc ks)) := rfl
theorem zx_if_ne {off : Int} {x : Int32} : zstp P C k J Q (pc, .ifCond .ne off, len, a, b, d) K L (.int x :: S) h kc ks = ((¬ x = 0 → J (ztg pc off) L S h kc ks) ∧ (x = 0 → K L S h kc ks)) := rfl
theorem zx_if_lt {off : Int} {x : Int32} : zstp P C k J Q (pc, .ifCond .lt off, len, a, b, d) K L (.int x :: S) h kc ks = ((x < 0 → J (ztg pc off) L S h kc ks) ∧ (¬ x < 0 → K L S h kc ks)) := rfl
theorem zx_if_ge {off : Int} {x : Int32} : zstp P C k J Q (pc, .ifCond .ge off, len, a, b, d) K L (.int x :: S) h kc ks = ((0 ≤ x → J (ztg pc off) L S h kc ks) ∧ (¬ 0 ≤ x → K L S h kc ks)) := rfl
theorem zx_if_gt {off : Int} {x : Int32} : zstp P C k J Q (pc, .ifCond .gt off, len, a, b, d) K L (.int x :: S) h kc ks = ((0 < x → J (ztg pc off) L S h kc ks) ∧ (¬ 0 < x → K L S h kc ks)) := rfl
theorem zx_if_le {off : Int} {x : Int32} : zstp P C k J Q (pc, .ifCond .le off, len, a, b, d) K L (.int x :: S) h kc ks = ((x ≤ 0 → J (ztg pc off) L S h kc ks) ∧ (¬ x ≤ 0 → K L S h kc ks)) := rfl
theorem zx_icmp_eq {off : Int} {x y : Int32} : zstp P C k J Q (pc, .if_icmp .eq off, len, a, b, d) K L (.int y :: .int x :: S) h kc ks = ((x = y → J (ztg pc off) L S h kc ks) ∧ (¬ x = y → K L S h kc ks)) := rfl
theorem zx_icmp_ne {off : Int} {x y : Int32} : zstp P C k J Q (pc, .if_icmp .ne off, len, a, b, d) K L (.int y :: .int x :: S) h kc ks = ((¬ x = y → J (ztg pc off) L S h kc ks) ∧ (x = y → K L S h kc ks)) := rfl
theorem zx_icmp_lt {off : Int} {x y : Int32} : zstp P C k J Q (pc, .if_icmp .lt off, len, a, b, d) K L (.int y :: .int x :: S) h kc ks = ((x < y → J (ztg pc off) L S h kc ks) ∧ (¬ x < y → K L S h kc ks)) := rfl
theorem zx_icmp_ge {off : Int} {x y : Int32} : zstp P C k J Q (pc, .if_icmp .ge off, len, a, b, d) K L (.int y :: .int x :: S) h kc ks = ((y ≤ x → J (ztg pc off) L S h kc ks) ∧ (¬ y ≤ x → K L S h kc ks)) := rfl
theorem zx_icmp_gt {off : Int} {x y : Int32} : zstp P C k J Q (pc, .if_icmp .gt off, len, a, b, d) K L (.int y :: .int x :: S) h kc ks = ((y < x → J (ztg pc off) L S h kc ks) ∧ (¬ y < x → K L S h kc ks)) := rfl
theorem zx_icmp_le {off : Int} {x y : Int32} : zstp P C k J Q (pc, .if_icmp .le off, len, a, b, d) K L (.int y :: .int x :: S) h kc ks = ((x ≤ y → J (ztg pc off) L S h kc ks) ∧ (¬ x ≤ y → K L S h kc ks)) := rfl
theorem zx_getfield {n q : Nat} : zstp P C k J Q (pc, .getfield n, len, a, b, d) K L (.ref q :: S) h kc ks = (zob (h.1 q) a fun fs => zfd fs b fun v => K L (v :: S) h kc ks) := rfl
theorem zx_putfield {n q : Nat} {v : Value} : zstp P C k J Q (pc, .putfield n, len, a, b, d) K L (v :: .ref q :: S) h kc ks = (zob (h.1 q) a fun fs => 16 ≤ q ∧ b < fs.length ∧ zfit (zty a b) v = true ∧ K L S (zup h q (.inr (a + 1, fs.set b v))) kc ks) := rfl
theorem zx_iaload {q : Nat} {j : Int32} : zstp P C k J Q (pc, .iaload, len, a, b, d) K L (.int j :: .ref q :: S) h kc ks = (zaI (h.1 q) fun n f => vp_in j n ∧ K L (.int (f j.toNatClampNeg) :: S) h kc ks) := rfl
theorem zx_laload {q : Nat} {j : Int32} : zstp P C k J Q (pc, .laload, len, a, b, d) K L (.int j :: .ref q :: S) h kc ks = (zaL (h.1 q) fun n f => vp_in j n ∧ K L (.long (f j.toNatClampNeg) :: S) h kc ks) := rfl
theorem zx_aaload {q : Nat} {j : Int32} : zstp P C k J Q (pc, .aaload, len, a, b, d) K L (.int j :: .ref q :: S) h kc ks = (zaR (h.1 q) fun n f => vp_in j n ∧ K L (va_rf (f j.toNatClampNeg) :: S) h kc ks) := rfl
theorem zx_iastore {q : Nat} {x j : Int32} : zstp P C k J Q (pc, .iastore, len, a, b, d) K L (.int x :: .int j :: .ref q :: S) h kc ks = (zaI (h.1 q) fun n f => 16 ≤ q ∧ vp_in j n ∧ K L S (zup h q (.inl (0, n, .inl (upd f j.toNatClampNeg x)))) kc ks) := rfl
theorem zx_lastore {q : Nat} {x : Int64} {j : Int32} : zstp P C k J Q (pc, .lastore, len, a, b, d) K L (.long x :: .int j :: .ref q :: S) h kc ks = (zaL (h.1 q) fun n f => 16 ≤ q ∧ vp_in j n ∧ K L S (zup h q (.inl (1, n, .inr (.inl (vp_updL f j.toNatClampNeg x))))) kc ks) := rfl
theorem zx_arraylength {q : Nat} : zstp P C k J Q (pc, .arraylength, len, a, b, d) K L (.ref q :: S) h kc ks = (zlen (h.1 q) fun n => K L (.int n.toInt32 :: S) h kc ks) := rfl
theorem zx_ireturn {v : Int32} : zstp P C k J Q (pc, .ireturn, len, a, b, d) K L [.int v] h kc ks = (kc ≤ zmc (P k) ∧ ks ≤ zms (P k) ∧ (a = 1 → v = 0 ∨ v = 1) ∧ Q (.inl (some (.int v))) h) := rfl
theorem zx_lreturn {v : Int64} : zstp P C k J Q (pc, .lreturn, len, a, b, d) K L [.long v] h kc ks = (kc ≤ zmc (P k) ∧ ks ≤ zms (P k) ∧ Q (.inl (some (.long v))) h) := rfl
theorem zx_areturn {v : Nat} : zstp P C k J Q (pc, .areturn, len, a, b, d) K L [.ref v] h kc ks = (kc ≤ zmc (P k) ∧ ks ≤ zms (P k) ∧ Q (.inl (some (.ref v))) h) := rfl
theorem zx_return : zstp P C k J Q (pc, .return_, len, a, b, d) K L [] h kc ks = (kc ≤ zmc (P k) ∧ ks ≤ zms (P k) ∧ Q (.inl none) h) := rfl
theorem zx_athrow : zstp P C k J Q (pc, .athrow, len, a, b, d) K L S h kc ks = (kc + 1 ≤ zmc (P k) ∧ ks + 6 ≤ zms (P k) ∧ zwt S ≤ 8 ∧ Q (.inr (zex a)) (znew h (.inr (0, [])))) := rfl
theorem zx_static0 {j : Nat} : zstp P C k J Q (pc, .invokestatic j, len, a, 0, 0) K L (S) h kc ks = (zwt S ≤ 8 ∧ kc + zmc (P a) ≤ zmc (P k) ∧ ks + zms (P a) ≤ zms (P k) ∧ C a [] h fun x h2 => (match x with
        | .inl v => K L (v.toList ++ S) h2 (kc + zmc (P a)) (ks + zms (P a))
        | .inr _ => False)) := by
  apply propext
  constructor
  · intro z
    exact z.2
  · intro z
    exact ⟨by simp, z⟩
theorem zx_static1 {j : Nat} {x0 : Value} : zstp P C k J Q (pc, .invokestatic j, len, a, 1, 0) K L (x0 :: S) h kc ks = (zwt S ≤ 8 ∧ kc + zmc (P a) ≤ zmc (P k) ∧ ks + zms (P a) ≤ zms (P k) ∧ C a [x0] h fun x h2 => (match x with
        | .inl v => K L (v.toList ++ S) h2 (kc + zmc (P a)) (ks + zms (P a))
        | .inr _ => False)) := by
  apply propext
  constructor
  · intro z
    exact z.2
  · intro z
    exact ⟨by simp, z⟩
theorem zx_virt1 {j q : Nat} : zstp P C k J Q (pc, .invokevirtual j, len, a, 1, 0) K L (.ref q :: S) h kc ks = (zwt S ≤ 8 ∧ kc + zmc (P a) ≤ zmc (P k) ∧ ks + zms (P a) ≤ zms (P k) ∧ zob (h.1 q) (zown (P a)) fun _ => C a [.ref q] h fun x h2 => (match x with
        | .inl v => K L (v.toList ++ S) h2 (kc + zmc (P a)) (ks + zms (P a))
        | .inr E => (match zthr (zhd (P k)) pc E with
          | some (t, pl) => J t (L.filter (fun q => !(q.1 == pl) && !(q.1 + 1 == pl && q.2.category == 2))) [] h2 (kc + zmc (P a)) (ks + zms (P a))
          | none => (zhd (P k)).isEmpty = true ∧ Q (.inr E) h2))) := by
  apply propext
  constructor
  · intro z
    exact z.2
  · intro z
    exact ⟨by simp, z⟩
theorem zx_static2 {j : Nat} {x0 x1 : Value} : zstp P C k J Q (pc, .invokestatic j, len, a, 2, 0) K L (x1 :: x0 :: S) h kc ks = (zwt S ≤ 8 ∧ kc + zmc (P a) ≤ zmc (P k) ∧ ks + zms (P a) ≤ zms (P k) ∧ C a [x0, x1] h fun x h2 => (match x with
        | .inl v => K L (v.toList ++ S) h2 (kc + zmc (P a)) (ks + zms (P a))
        | .inr _ => False)) := by
  apply propext
  constructor
  · intro z
    exact z.2
  · intro z
    exact ⟨by simp, z⟩
theorem zx_virt2 {j q : Nat} {x1 : Value} : zstp P C k J Q (pc, .invokevirtual j, len, a, 2, 0) K L (x1 :: .ref q :: S) h kc ks = (zwt S ≤ 8 ∧ kc + zmc (P a) ≤ zmc (P k) ∧ ks + zms (P a) ≤ zms (P k) ∧ zob (h.1 q) (zown (P a)) fun _ => C a [.ref q, x1] h fun x h2 => (match x with
        | .inl v => K L (v.toList ++ S) h2 (kc + zmc (P a)) (ks + zms (P a))
        | .inr E => (match zthr (zhd (P k)) pc E with
          | some (t, pl) => J t (L.filter (fun q => !(q.1 == pl) && !(q.1 + 1 == pl && q.2.category == 2))) [] h2 (kc + zmc (P a)) (ks + zms (P a))
          | none => (zhd (P k)).isEmpty = true ∧ Q (.inr E) h2))) := by
  apply propext
  constructor
  · intro z
    exact z.2
  · intro z
    exact ⟨by simp, z⟩
theorem zx_static3 {j : Nat} {x0 x1 x2 : Value} : zstp P C k J Q (pc, .invokestatic j, len, a, 3, 0) K L (x2 :: x1 :: x0 :: S) h kc ks = (zwt S ≤ 8 ∧ kc + zmc (P a) ≤ zmc (P k) ∧ ks + zms (P a) ≤ zms (P k) ∧ C a [x0, x1, x2] h fun x h2 => (match x with
        | .inl v => K L (v.toList ++ S) h2 (kc + zmc (P a)) (ks + zms (P a))
        | .inr _ => False)) := by
  apply propext
  constructor
  · intro z
    exact z.2
  · intro z
    exact ⟨by simp, z⟩
theorem zx_virt3 {j q : Nat} {x1 x2 : Value} : zstp P C k J Q (pc, .invokevirtual j, len, a, 3, 0) K L (x2 :: x1 :: .ref q :: S) h kc ks = (zwt S ≤ 8 ∧ kc + zmc (P a) ≤ zmc (P k) ∧ ks + zms (P a) ≤ zms (P k) ∧ zob (h.1 q) (zown (P a)) fun _ => C a [.ref q, x1, x2] h fun x h2 => (match x with
        | .inl v => K L (v.toList ++ S) h2 (kc + zmc (P a)) (ks + zms (P a))
        | .inr E => (match zthr (zhd (P k)) pc E with
          | some (t, pl) => J t (L.filter (fun q => !(q.1 == pl) && !(q.1 + 1 == pl && q.2.category == 2))) [] h2 (kc + zmc (P a)) (ks + zms (P a))
          | none => (zhd (P k)).isEmpty = true ∧ Q (.inr E) h2))) := by
  apply propext
  constructor
  · intro z
    exact z.2
  · intro z
    exact ⟨by simp, z⟩
theorem zx_static4 {j : Nat} {x0 x1 x2 x3 : Value} : zstp P C k J Q (pc, .invokestatic j, len, a, 4, 0) K L (x3 :: x2 :: x1 :: x0 :: S) h kc ks = (zwt S ≤ 8 ∧ kc + zmc (P a) ≤ zmc (P k) ∧ ks + zms (P a) ≤ zms (P k) ∧ C a [x0, x1, x2, x3] h fun x h2 => (match x with
        | .inl v => K L (v.toList ++ S) h2 (kc + zmc (P a)) (ks + zms (P a))
        | .inr _ => False)) := by
  apply propext
  constructor
  · intro z
    exact z.2
  · intro z
    exact ⟨by simp, z⟩
theorem zx_virt4 {j q : Nat} {x1 x2 x3 : Value} : zstp P C k J Q (pc, .invokevirtual j, len, a, 4, 0) K L (x3 :: x2 :: x1 :: .ref q :: S) h kc ks = (zwt S ≤ 8 ∧ kc + zmc (P a) ≤ zmc (P k) ∧ ks + zms (P a) ≤ zms (P k) ∧ zob (h.1 q) (zown (P a)) fun _ => C a [.ref q, x1, x2, x3] h fun x h2 => (match x with
        | .inl v => K L (v.toList ++ S) h2 (kc + zmc (P a)) (ks + zms (P a))
        | .inr E => (match zthr (zhd (P k)) pc E with
          | some (t, pl) => J t (L.filter (fun q => !(q.1 == pl) && !(q.1 + 1 == pl && q.2.category == 2))) [] h2 (kc + zmc (P a)) (ks + zms (P a))
          | none => (zhd (P k)).isEmpty = true ∧ Q (.inr E) h2))) := by
  apply propext
  constructor
  · intro z
    exact z.2
  · intro z
    exact ⟨by simp, z⟩
theorem zx_static5 {j : Nat} {x0 x1 x2 x3 x4 : Value} : zstp P C k J Q (pc, .invokestatic j, len, a, 5, 0) K L (x4 :: x3 :: x2 :: x1 :: x0 :: S) h kc ks = (zwt S ≤ 8 ∧ kc + zmc (P a) ≤ zmc (P k) ∧ ks + zms (P a) ≤ zms (P k) ∧ C a [x0, x1, x2, x3, x4] h fun x h2 => (match x with
        | .inl v => K L (v.toList ++ S) h2 (kc + zmc (P a)) (ks + zms (P a))
        | .inr _ => False)) := by
  apply propext
  constructor
  · intro z
    exact z.2
  · intro z
    exact ⟨by simp, z⟩
theorem zx_virt5 {j q : Nat} {x1 x2 x3 x4 : Value} : zstp P C k J Q (pc, .invokevirtual j, len, a, 5, 0) K L (x4 :: x3 :: x2 :: x1 :: .ref q :: S) h kc ks = (zwt S ≤ 8 ∧ kc + zmc (P a) ≤ zmc (P k) ∧ ks + zms (P a) ≤ zms (P k) ∧ zob (h.1 q) (zown (P a)) fun _ => C a [.ref q, x1, x2, x3, x4] h fun x h2 => (match x with
        | .inl v => K L (v.toList ++ S) h2 (kc + zmc (P a)) (ks + zms (P a))
        | .inr E => (match zthr (zhd (P k)) pc E with
          | some (t, pl) => J t (L.filter (fun q => !(q.1 == pl) && !(q.1 + 1 == pl && q.2.category == 2))) [] h2 (kc + zmc (P a)) (ks + zms (P a))
          | none => (zhd (P k)).isEmpty = true ∧ Q (.inr E) h2))) := by
  apply propext
  constructor
  · intro z
    exact z.2
  · intro z
    exact ⟨by simp, z⟩
theorem zx_static6 {j : Nat} {x0 x1 x2 x3 x4 x5 : Value} : zstp P C k J Q (pc, .invokestatic j, len, a, 6, 0) K L (x5 :: x4 :: x3 :: x2 :: x1 :: x0 :: S) h kc ks = (zwt S ≤ 8 ∧ kc + zmc (P a) ≤ zmc (P k) ∧ ks + zms (P a) ≤ zms (P k) ∧ C a [x0, x1, x2, x3, x4, x5] h fun x h2 => (match x with
        | .inl v => K L (v.toList ++ S) h2 (kc + zmc (P a)) (ks + zms (P a))
        | .inr _ => False)) := by
  apply propext
  constructor
  · intro z
    exact z.2
  · intro z
    exact ⟨by simp, z⟩
theorem zx_virt6 {j q : Nat} {x1 x2 x3 x4 x5 : Value} : zstp P C k J Q (pc, .invokevirtual j, len, a, 6, 0) K L (x5 :: x4 :: x3 :: x2 :: x1 :: .ref q :: S) h kc ks = (zwt S ≤ 8 ∧ kc + zmc (P a) ≤ zmc (P k) ∧ ks + zms (P a) ≤ zms (P k) ∧ zob (h.1 q) (zown (P a)) fun _ => C a [.ref q, x1, x2, x3, x4, x5] h fun x h2 => (match x with
        | .inl v => K L (v.toList ++ S) h2 (kc + zmc (P a)) (ks + zms (P a))
        | .inr E => (match zthr (zhd (P k)) pc E with
          | some (t, pl) => J t (L.filter (fun q => !(q.1 == pl) && !(q.1 + 1 == pl && q.2.category == 2))) [] h2 (kc + zmc (P a)) (ks + zms (P a))
          | none => (zhd (P k)).isEmpty = true ∧ Q (.inr E) h2))) := by
  apply propext
  constructor
  · intro z
    exact z.2
  · intro z
    exact ⟨by simp, z⟩
theorem zx_static7 {j : Nat} {x0 x1 x2 x3 x4 x5 x6 : Value} : zstp P C k J Q (pc, .invokestatic j, len, a, 7, 0) K L (x6 :: x5 :: x4 :: x3 :: x2 :: x1 :: x0 :: S) h kc ks = (zwt S ≤ 8 ∧ kc + zmc (P a) ≤ zmc (P k) ∧ ks + zms (P a) ≤ zms (P k) ∧ C a [x0, x1, x2, x3, x4, x5, x6] h fun x h2 => (match x with
        | .inl v => K L (v.toList ++ S) h2 (kc + zmc (P a)) (ks + zms (P a))
        | .inr _ => False)) := by
  apply propext
  constructor
  · intro z
    exact z.2
  · intro z
    exact ⟨by simp, z⟩
theorem zx_virt7 {j q : Nat} {x1 x2 x3 x4 x5 x6 : Value} : zstp P C k J Q (pc, .invokevirtual j, len, a, 7, 0) K L (x6 :: x5 :: x4 :: x3 :: x2 :: x1 :: .ref q :: S) h kc ks = (zwt S ≤ 8 ∧ kc + zmc (P a) ≤ zmc (P k) ∧ ks + zms (P a) ≤ zms (P k) ∧ zob (h.1 q) (zown (P a)) fun _ => C a [.ref q, x1, x2, x3, x4, x5, x6] h fun x h2 => (match x with
        | .inl v => K L (v.toList ++ S) h2 (kc + zmc (P a)) (ks + zms (P a))
        | .inr E => (match zthr (zhd (P k)) pc E with
          | some (t, pl) => J t (L.filter (fun q => !(q.1 == pl) && !(q.1 + 1 == pl && q.2.category == 2))) [] h2 (kc + zmc (P a)) (ks + zms (P a))
          | none => (zhd (P k)).isEmpty = true ∧ Q (.inr E) h2))) := by
  apply propext
  constructor
  · intro z
    exact z.2
  · intro z
    exact ⟨by simp, z⟩
theorem zrun_nil {e : Nat} : zrun P C k J Q [] e L S h kc ks = J e L S h kc ks := rfl
theorem zrun_cons {e : Nat} {o : zOp} {r : List zOp} : zrun P C k J Q (o :: r) e L S h kc ks = zstp P C k J Q o (zrun P C k J Q r e) L S h kc ks := rfl
theorem zgi_h {i : Nat} {x : Int32} {f : Int32 → Prop} : zgi ((i, .int x) :: L) i f = f x := by
  unfold zgi zget
  simp
theorem zgi_n {i j : Nat} {v : Value} {f : Int32 → Prop} (hn : (i == j) = false) : zgi ((i, v) :: L) j f = zgi L j f := by
  unfold zgi zget
  simp [hn]
theorem zgl_h {i : Nat} {x : Int64} {f : Int64 → Prop} : zgl ((i, .long x) :: L) i f = f x := by
  unfold zgl zget
  simp
theorem zgl_n {i j : Nat} {v : Value} {f : Int64 → Prop} (hn : (i == j) = false) : zgl ((i, v) :: L) j f = zgl L j f := by
  unfold zgl zget
  simp [hn]
theorem zgr_h {i : Nat} {x : Nat} {f : Nat → Prop} : zgr ((i, .ref x) :: L) i f = f x := by
  unfold zgr zget
  simp
theorem zgr_n {i j : Nat} {v : Value} {f : Nat → Prop} (hn : (i == j) = false) : zgr ((i, v) :: L) j f = zgr L j f := by
  unfold zgr zget
  simp [hn]
theorem zins_nil {i : Nat} {v : Value} : zins i v [] = [(i, v)] := rfl
theorem zins_lt {i j : Nat} {v w : Value} (hl : Nat.blt i j = true) : zins i v ((j, w) :: L) = (i, v) :: (j, w) :: L := by
  rw [zins]
  exact if_pos (Nat.le_of_ble_eq_true hl)
theorem zins_ge {i j : Nat} {v w : Value} (hl : Nat.blt i j = false) : zins i v ((j, w) :: L) = (j, w) :: zins i v L := by
  rw [zins]
  refine if_neg (fun z => ?_)
  have : Nat.blt i j = true := Nat.ble_eq_true_of_le z
  rw [hl] at this
  cases this
theorem cat_i {x : Int32} : (Value.int x).category = 1 := rfl
theorem cat_l {x : Int64} : (Value.long x).category = 2 := rfl
theorem cat_r {x : Nat} : (Value.ref x).category = 1 := rfl
theorem zfilt_nil {p : Nat × Value → Bool} : List.filter p ([] : zL) = [] := rfl
theorem zfilt_t {p : Nat × Value → Bool} {q : Nat × Value} (hq : p q = true) : List.filter p (q :: L) = q :: List.filter p L := List.filter_cons_of_pos hq
theorem zfilt_f {p : Nat × Value → Bool} {q : Nat × Value} (hq : p q = false) : List.filter p (q :: L) = List.filter p L := List.filter_cons_of_neg (by rw [hq]; decide)
end ZX
/-- from a label into its block -/
theorem zgo {k pc e : Nat} {kp : List Nat} {ops : List zOp} {Q : zQ} {L : zL} {S : List Value} {h : zH} {kc ks : Nat} (hf : (zbl (zP k)).find? (fun q => q.1 == pc) = some (pc, kp, ops, e)) (hr : zrun zP (zcall zP k) k (zfp zP (zcall zP k) k Q) Q ops e (L.filter (fun q => kp.contains q.1)) S h kc ks) : zfp zP (zcall zP k) k Q pc L S h kc ks := by
  refine zfold ?_
  unfold zblk
  rw [hf]
  exact hr
