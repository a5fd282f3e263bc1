/-! THE SMALL MACHINE: what a method's bytecode does over a heap of numbered cells, as a predicate of what holds at its end. A cell: an array (kind, length, contents), or an object (its class's number and 1; 0: a cell of which nothing is said; its fields). A reference is the cell's number: below 16 those that were there before (the script, texts), from 16 on those that the law has made, in their order. -/
abbrev zC : Type := (Nat × vp_A) ⊕ (Nat × List Value)
abbrev zH : Type := (Nat → zC) × Nat
abbrev zL : Type := List (Nat × Value)
abbrev zQ : Type := (Option Value ⊕ String) → zH → Prop
abbrev zK : Type := zL → List Value → zH → Nat → Nat → Prop
/-- pc, instruction, its length, three numbers that the tables hold of it -/
abbrev zOp : Type := Nat × Instr × Nat × Nat × Nat × Int
/-- own class, name, code, locals, what it returns, its table, its handlers, (frames, words, cells, slots), its blocks -/
abbrev zM : Type := Nat × MethodName × ByteArray × Nat × Option FieldType × Option (List (Nat × Nat × Nat × Nat)) × List (Nat × Nat × Nat × String × Nat) × (Nat × Nat × Nat × Nat) × List (Nat × List Nat × List zOp × Nat)
def zown (M : zM) : Nat := M.1
def zy (M : zM) : MethodName := M.2.1
def zcc (M : zM) : ByteArray := M.2.2.1
def zml (M : zM) : Nat := M.2.2.2.1
def zrt (M : zM) : Option FieldType := M.2.2.2.2.1
def zhh (M : zM) : Option (List (Nat × Nat × Nat × Nat)) := M.2.2.2.2.2.1
def zhd (M : zM) : List (Nat × Nat × Nat × String × Nat) := M.2.2.2.2.2.2.1
def zfr (M : zM) : Nat := M.2.2.2.2.2.2.2.1.1
def zlo (M : zM) : Nat := M.2.2.2.2.2.2.2.1.2.1
def zmc (M : zM) : Nat := M.2.2.2.2.2.2.2.1.2.2.1
def zms (M : zM) : Nat := M.2.2.2.2.2.2.2.1.2.2.2
def zbl (M : zM) : List (Nat × List Nat × List zOp × Nat) := M.2.2.2.2.2.2.2.2
def zup (h : zH) (a : Nat) (c : zC) : zH := (fun i => if i = a then c else h.1 i, h.2)
def znew (h : zH) (c : zC) : zH := (fun i => if i = h.2 then c else h.1 i, h.2 + 1)
def zrows (h : zH) (N K : Nat) : zH := (fun i => if i = h.2 then .inl (2, N, .inr (.inr (.inr (.inr (fun j => if j < N then some (h.2 + 1 + j) else none))))) else if h.2 < i ∧ i ≤ h.2 + N then .inl (0, K, .inl (fun _ => 0)) else h.1 i, h.2 + 1 + N)
def zget (L : zL) (i : Nat) : Option Value := (L.find? (fun q => q.1 == i)).map (fun q => q.2)
def zins (i : Nat) (v : Value) : zL → zL
  | [] => [(i, v)]
  | q :: r => if i < q.1 then (i, v) :: q :: r else q :: zins i v r
def zset1 (L : zL) (i : Nat) (v : Value) : zL := zins i v (L.filter (fun q => !(q.1 == i) && !(q.1 + 1 == i && q.2.category == 2)))
def zset2 (L : zL) (i : Nat) (v : Value) : zL := zins i v (L.filter (fun q => !(q.1 == i) && (!(q.1 == i + 1) && !(q.1 + 1 == i && q.2.category == 2))))
def zv1 (S : List Value) (f : Value → List Value → Prop) : Prop := match S with
  | v :: S => f v S
  | _ => False
def zv2 (S : List Value) (f : Value → Value → List Value → Prop) : Prop := match S with
  | v :: w :: S => f v w S
  | _ => False
def zi1 (S : List Value) (f : Int32 → List Value → Prop) : Prop := match S with
  | .int x :: S => f x S
  | _ => False
def zi2 (S : List Value) (f : Int32 → Int32 → List Value → Prop) : Prop := match S with
  | .int y :: .int x :: S => f x y S
  | _ => False
def zl1 (S : List Value) (f : Int64 → List Value → Prop) : Prop := match S with
  | .long x :: S => f x S
  | _ => False
def zl2 (S : List Value) (f : Int64 → Int64 → List Value → Prop) : Prop := match S with
  | .long y :: .long x :: S => f x y S
  | _ => False
def zil (S : List Value) (f : Int64 → Int32 → List Value → Prop) : Prop := match S with
  | .int y :: .long x :: S => f x y S
  | _ => False
def zr1 (S : List Value) (f : Nat → List Value → Prop) : Prop := match S with
  | .ref a :: S => f a S
  | _ => False
def zvr (S : List Value) (f : Value → Nat → List Value → Prop) : Prop := match S with
  | v :: .ref a :: S => f v a S
  | _ => False
def zir (S : List Value) (f : Int32 → Nat → List Value → Prop) : Prop := match S with
  | .int i :: .ref a :: S => f i a S
  | _ => False
def ziir (S : List Value) (f : Int32 → Int32 → Nat → List Value → Prop) : Prop := match S with
  | .int x :: .int i :: .ref a :: S => f x i a S
  | _ => False
def zlir (S : List Value) (f : Int64 → Int32 → Nat → List Value → Prop) : Prop := match S with
  | .long x :: .int i :: .ref a :: S => f x i a S
  | _ => False
def zcpS (S : List Value) (f : Int32 → Int32 → Nat → Int32 → Nat → List Value → Prop) : Prop := match S with
  | .int n :: .int dp :: .ref a :: .int sp :: .ref a0 :: S => f n dp a sp a0 S
  | _ => False
/-- a local that holds an int, a long, a reference -/
def zgi (L : zL) (i : Nat) (f : Int32 → Prop) : Prop := match zget L i with
  | some (.int x) => f x
  | _ => False
def zgl (L : zL) (i : Nat) (f : Int64 → Prop) : Prop := match zget L i with
  | some (.long x) => f x
  | _ => False
def zgr (L : zL) (i : Nat) (f : Nat → Prop) : Prop := match zget L i with
  | some (.ref x) => f x
  | _ => False
/-- an array of ints, of longs, of references; an object -/
def zaI (c : zC) (f : Nat → (Nat → Int32) → Prop) : Prop := match c with
  | .inl (0, n, .inl g) => f n g
  | _ => False
def zaL (c : zC) (f : Nat → (Nat → Int64) → Prop) : Prop := match c with
  | .inl (1, n, .inr (.inl g)) => f n g
  | _ => False
def zaR (c : zC) (f : Nat → (Nat → Option Nat) → Prop) : Prop := match c with
  | .inl (2, n, .inr (.inr (.inr (.inr g)))) => f n g
  | _ => False
def zob (c : zC) (ci : Nat) (f : List Value → Prop) : Prop := match c with
  | .inr (n, fs) => n = ci + 1 ∧ f fs
  | _ => False
def zfd (fs : List Value) (k : Nat) (f : Value → Prop) : Prop := match fs[k]? with
  | some v => f v
  | none => False
def zlen (c : zC) (f : Nat → Prop) : Prop := match c with
  | .inl (d, n, _) => d < 3 ∧ f n
  | _ => False
def ztg (pc : Nat) (off : Int) : Nat := ((pc : Int) + off).toNat
def zwt (S : List Value) : Nat := (S.map (fun v => v.category)).sum
/-- what a field of a type takes -/
def zfit (ty : FieldType) (v : Value) : Bool := match ty, v with
  | .int, .int _ => true
  | .long, .long _ => true
  | .object _, .ref _ => true
  | .object _, .null => true
  | .array _, .ref _ => true
  | .array _, .null => true
  | _, _ => false
def zdef (ty : FieldType) : Value := match ty with
  | .int => .int 0
  | .long => .long 0
  | _ => .null
/-- an exception of the name E over pc: to a handler, or out -/
def zthr (hd : List (Nat × Nat × Nat × String × Nat)) (pc : Nat) (E : String) : Option (Nat × Nat) := (hd.find? (fun q => decide (q.1 ≤ pc) && (decide (pc < q.2.1) && decide (q.2.2.2.1 = E)))).map (fun q => (q.2.2.1, q.2.2.2.2))
def zcl : List vw_C := [(RX0, TX0, 4), (RX1, TX1, 7), (RX2, TX2, 4), (RX3, TX3, 7), (RX5, TX5, 6), (RX6, TX6, 3), (RX7, TX7, 3), (RX8, TX8, 6), (RX9, TX9, 19), (RX10, TX10, 10), (RX11, TX11, 14), (RX12, TX12, 60)]
def ztyL : List (Nat → FieldType) := [tyX0, tyX1, tyX2, tyX3, tyX5, tyX6, tyX7, tyX8, tyX9, tyX10, tyX11, tyX12]
def zty (ci k : Nat) : FieldType := (ztyL.getD ci (fun _ => .int)) k
def zsz : List Nat := [4, 7, 4, 7, 6, 3, 3, 6, 19, 10, 14, 60]
def zdfs (ci : Nat) : List Value := (List.range (zsz.getD ci 0)).map (fun k => zdef (zty ci k))
def zcnL : List String := [RX0, RX1, RX2, RX3, RX5, RX6, RX7, RX8, RX9, RX10, RX11, RX12, RX4, RL, RJ6, RJ13, RJ9, RJ7]
def zcn (c : Nat) : String := zcnL.getD c ""
def zexL : List String := ["java/lang/IllegalArgumentException", "java/util/NoSuchElementException", "java/lang/IndexOutOfBoundsException"]
def zex (c : Nat) : String := zexL.getD c ""
/-- the texts of the class, by their places from 1 on -/
def zsT : List (List Nat) := [[], [99, 111, 114, 110, 101, 114], [115, 116, 114, 101, 101, 116], [111, 110, 101], [110, 111], [109, 97, 121], [98, 111, 120], [114, 105, 100, 101, 114]]
def zsl (q : Nat) : Nat := (zsT.getD q []).length
def zsc (q j : Nat) : Int32 := nI ((zsT.getD q []).getD j 0)
/-- one instruction: J at a jump's target, K behind it, Q at the method's end -/
def zstp (P : Nat → zM) (C : Nat → List Value → zH → zQ → Prop) (k : Nat) (J : Nat → zK) (Q : zQ) (o : zOp) (K : zK) : zK := fun L S h kc ks => match o with
  | (pc, i, _, a, b, d) => match i with
    | .iconst n => K L (.int (Int32.ofInt n) :: S) h kc ks
    | .bipush n => K L (.int (Int8.ofInt n).toInt32 :: S) h kc ks
    | .sipush n => K L (.int (Int16.ofInt n).toInt32 :: S) h kc ks
    | .lconst n => K L (.long (Int64.ofNat (n : Nat)) :: S) h kc ks
    | .ldc _ => if a = 1 then K L (.ref b :: S) h kc ks else K L (.int (Int32.ofInt d) :: S) h kc ks
    | .ldc_w _ => K L (.int (Int32.ofInt d) :: S) h kc ks
    | .ldc2_w _ => K L (.long (Int64.ofInt d) :: S) h kc ks
    | .iload_n n => zgi L n fun x => K L (.int x :: S) h kc ks
    | .iload n => zgi L n fun x => K L (.int x :: S) h kc ks
    | .lload_n n => zgl L n fun x => K L (.long x :: S) h kc ks
    | .lload n => zgl L n fun x => K L (.long x :: S) h kc ks
    | .aload_n n => zgr L n fun x => K L (.ref x :: S) h kc ks
    | .aload n => zgr L n fun x => K L (.ref x :: S) h kc ks
    | .istore_n n => zi1 S fun x S => K (zset1 L n (.int x)) S h kc ks
    | .istore n => zi1 S fun x S => K (zset1 L n (.int x)) S h kc ks
    | .lstore_n n => zl1 S fun x S => K (zset2 L n (.long x)) S h kc ks
    | .lstore n => zl1 S fun x S => K (zset2 L n (.long x)) S h kc ks
    | .astore_n n => zr1 S fun x S => K (zset1 L n (.ref x)) S h kc ks
    | .astore n => zr1 S fun x S => K (zset1 L n (.ref x)) S h kc ks
    | .iinc n z => zgi L n fun x => K (zset1 L n (.int (x + Int32.ofInt z))) S h kc ks
    | .iadd => zi2 S fun x y S => K L (.int (x + y) :: S) h kc ks
    | .isub => zi2 S fun x y S => K L (.int (x - y) :: S) h kc ks
    | .imul => zi2 S fun x y S => K L (.int (x * y) :: S) h kc ks
    | .idiv => zi2 S fun x y S => ¬ y = 0 ∧ K L (.int (x / y) :: S) h kc ks
    | .irem => zi2 S fun x y S => ¬ y = 0 ∧ K L (.int (x - x / y * y) :: S) h kc ks
    | .iand => zi2 S fun x y S => K L (.int (x &&& y) :: S) h kc ks
    | .ior => zi2 S fun x y S => K L (.int (x ||| y) :: S) h kc ks
    | .ixor => zi2 S fun x y S => K L (.int (x ^^^ y) :: S) h kc ks
    | .ishl => zi2 S fun x y S => K L (.int (x <<< (y &&& 31)) :: S) h kc ks
    | .ishr => zi2 S fun x y S => K L (.int (x >>> (y &&& 31)) :: S) h kc ks
    | .iushr => zi2 S fun x y S => K L (.int (x.toUInt32 >>> (y.toUInt32 &&& Int32.toUInt32 31)).toInt32 :: S) h kc ks
    | .ineg => zi1 S fun x S => K L (.int (-x) :: S) h kc ks
    | .ladd => zl2 S fun x y S => K L (.long (x + y) :: S) h kc ks
    | .lsub => zl2 S fun x y S => K L (.long (x - y) :: S) h kc ks
    | .land => zl2 S fun x y S => K L (.long (x &&& y) :: S) h kc ks
    | .lor => zl2 S fun x y S => K L (.long (x ||| y) :: S) h kc ks
    | .lxor => zl2 S fun x y S => K L (.long (x ^^^ y) :: S) h kc ks
    | .lneg => zl1 S fun x S => K L (.long (-x) :: S) h kc ks
    | .lshl => zil S fun x y S => K L (.long (x <<< (y.toInt64 &&& 63)) :: S) h kc ks
    | .lushr => zil S fun x y S => K L (.long (x.toUInt64 >>> (y.toInt64.toUInt64 &&& Int64.toUInt64 63)).toInt64 :: S) h kc ks
    | .i2l => zi1 S fun x S => K L (.long x.toInt64 :: S) h kc ks
    | .l2i => zl1 S fun x S => K L (.int x.toInt32 :: S) h kc ks
    | .lcmp => zl2 S fun x y S => K L (.int (lg_cmp x y) :: S) h kc ks
    | .dup => zv1 S fun v S => v.category = 1 ∧ K L (v :: v :: S) h kc ks
    | .dup2 => zv2 S fun v w S => v.category = 1 ∧ w.category = 1 ∧ K L (v :: w :: v :: w :: S) h kc ks
    | .pop => zv1 S fun v S => v.category = 1 ∧ K L S h kc ks
    | .goto off => J (ztg pc off) L S h kc ks
    | .ifCond .eq off => zi1 S fun x S => (x = 0 → J (ztg pc off) L S h kc ks) ∧ (¬ x = 0 → K L S h kc ks)
    | .ifCond .ne off => zi1 S fun x S => (¬ x = 0 → J (ztg pc off) L S h kc ks) ∧ (x = 0 → K L S h kc ks)
    | .ifCond .lt off => zi1 S fun x S => (x < 0 → J (ztg pc off) L S h kc ks) ∧ (¬ x < 0 → K L S h kc ks)
    | .ifCond .ge off => zi1 S fun x S => (0 ≤ x → J (ztg pc off) L S h kc ks) ∧ (¬ 0 ≤ x → K L S h kc ks)
    | .ifCond .gt off => zi1 S fun x S => (0 < x → J (ztg pc off) L S h kc ks) ∧ (¬ 0 < x → K L S h kc ks)
    | .ifCond .le off => zi1 S fun x S => (x ≤ 0 → J (ztg pc off) L S h kc ks) ∧ (¬ x ≤ 0 → K L S h kc ks)
    | .if_icmp .eq off => zi2 S fun x y S => (x = y → J (ztg pc off) L S h kc ks) ∧ (¬ x = y → K L S h kc ks)
    | .if_icmp .ne off => zi2 S fun x y S => (¬ x = y → J (ztg pc off) L S h kc ks) ∧ (x = y → K L S h kc ks)
    | .if_icmp .lt off => zi2 S fun x y S => (x < y → J (ztg pc off) L S h kc ks) ∧ (¬ x < y → K L S h kc ks)
    | .if_icmp .ge off => zi2 S fun x y S => (y ≤ x → J (ztg pc off) L S h kc ks) ∧ (¬ y ≤ x → K L S h kc ks)
    | .if_icmp .gt off => zi2 S fun x y S => (y < x → J (ztg pc off) L S h kc ks) ∧ (¬ y < x → K L S h kc ks)
    | .if_icmp .le off => zi2 S fun x y S => (x ≤ y → J (ztg pc off) L S h kc ks) ∧ (¬ x ≤ y → K L S h kc ks)
    | .tableswitch dflt lo hi offs => zi1 S fun x S => (x.toInt < lo ∨ hi < x.toInt → J (ztg pc dflt) L S h kc ks) ∧ ∀ (j : Nat) (off : Int), offs.toList[j]? = some off → x.toInt = lo + j → J (ztg pc off) L S h kc ks
    | .getfield _ => zr1 S fun q S => zob (h.1 q) a fun fs => zfd fs b fun v => K L (v :: S) h kc ks
    | .putfield _ => zvr S fun v q S => zob (h.1 q) a fun fs => 16 ≤ q ∧ b < fs.length ∧ zfit (zty a b) v = true ∧ K L S (zup h q (.inr (a + 1, fs.set b v))) kc ks
    | .iaload => zir S fun j q S => zaI (h.1 q) fun n f => vp_in j n ∧ K L (.int (f j.toNatClampNeg) :: S) h kc ks
    | .laload => zir S fun j q S => zaL (h.1 q) fun n f => vp_in j n ∧ K L (.long (f j.toNatClampNeg) :: S) h kc ks
    | .aaload => zir S fun j q S => zaR (h.1 q) fun n f => vp_in j n ∧ K L (va_rf (f j.toNatClampNeg) :: S) h kc ks
    | .iastore => ziir S fun x j q S => zaI (h.1 q) fun n f => 16 ≤ q ∧ vp_in j n ∧ K L S (zup h q (.inl (0, n, .inl (upd f j.toNatClampNeg x)))) kc ks
    | .lastore => zlir S fun x j q S => zaL (h.1 q) fun n f => 16 ≤ q ∧ vp_in j n ∧ K L S (zup h q (.inl (1, n, .inr (.inl (vp_updL f j.toNatClampNeg x))))) kc ks
    | .arraylength => zr1 S fun q S => zlen (h.1 q) fun n => K L (.int n.toInt32 :: S) h kc ks
    | .newarray ty => zi1 S fun n S => ¬ n < 0 ∧ n.toNatClampNeg ≤ 1000000 ∧ kc + 1 ≤ zmc (P k) ∧ ks + n.toNatClampNeg ≤ zms (P k) ∧ (match ty with
      | .int => K L (.ref h.2 :: S) (znew h (.inl (0, n.toNatClampNeg, .inl (fun _ => 0)))) (kc + 1) (ks + n.toNatClampNeg)
      | .long => K L (.ref h.2 :: S) (znew h (.inl (1, n.toNatClampNeg, .inr (.inl (fun _ => 0))))) (kc + 1) (ks + n.toNatClampNeg)
      | _ => False)
    | .multianewarray _ _ => zi2 S fun n z S => ¬ n < 0 ∧ ¬ z < 0 ∧ n.toNatClampNeg ≤ 1000000 ∧ z.toNatClampNeg ≤ 1000000 ∧ kc + (1 + n.toNatClampNeg) ≤ zmc (P k) ∧ ks + (n.toNatClampNeg + n.toNatClampNeg * z.toNatClampNeg) ≤ zms (P k) ∧ K L (.ref h.2 :: S) (zrows h n.toNatClampNeg z.toNatClampNeg) (kc + 1 + n.toNatClampNeg) (ks + n.toNatClampNeg + n.toNatClampNeg * z.toNatClampNeg)
    | .new _ => kc + 1 ≤ zmc (P k) ∧ ks + zsz.getD a 0 ≤ zms (P k) ∧ K L (.ref h.2 :: S) (znew h (.inr (a + 1, zdfs a))) (kc + 1) (ks + zsz.getD a 0)
    | .athrow => kc + 1 ≤ zmc (P k) ∧ ks + 6 ≤ zms (P k) ∧ zwt S ≤ 8 ∧ Q (.inr (zex a)) (znew h (.inr (0, [])))
    | .invokevirtual _ => if d = 5 then zr1 S fun q S => ((1 ≤ q ∧ q ≤ 7) ∧ kc ≤ zmc (P k) ∧ ks ≤ zms (P k)) ∧ zwt S ≤ 8 ∧ K L (.int (nI (zsl q)) :: S) h kc ks else if d = 6 then zir S fun j q S => ((1 ≤ q ∧ q ≤ 7) ∧ kc ≤ zmc (P k) ∧ ks ≤ zms (P k)) ∧ zwt S ≤ 8 ∧ vp_in j (zsl q) ∧ K L (.int (zsc q j.toNatClampNeg) :: S) h kc ks
      else b ≤ S.length ∧ zwt (S.drop b) ≤ 8 ∧ kc + zmc (P a) ≤ zmc (P k) ∧ ks + zms (P a) ≤ zms (P k) ∧ (match (S.take b).reverse with
      | .ref q :: r => zob (h.1 q) (zown (P a)) fun _ => C a (.ref q :: r) h fun x h2 => (match x with
        | .inl v => K L (v.toList ++ S.drop b) h2 (kc + zmc (P a)) (ks + zms (P a))
        | .inr E => (match zthr (zhd (P k)) pc E with
          | some (t, pl) => J t (L.filter (fun q => !(q.1 == pl) && !(q.1 + 1 == pl && q.2.category == 2))) [] h2 (kc + zmc (P a)) (ks + zms (P a))
          | none => (zhd (P k)).isEmpty = true ∧ Q (.inr E) h2))
      | _ => False)
    | .invokestatic _ => if d = 2 then zcpS S fun n dp q sp q0 S => ¬ sp < 0 ∧ ¬ dp < 0 ∧ ¬ n < 0 ∧ 16 ≤ q ∧ 16 ≤ q0 ∧ zwt S ≤ 8 ∧ (if a = 0 then zaI (h.1 q0) fun n0 f => zaI (h.1 q) fun n1 g => sp.toNatClampNeg + n.toNatClampNeg ≤ n0 ∧ dp.toNatClampNeg + n.toNatClampNeg ≤ n1 ∧ K L S (zup h q (.inl (0, n1, .inl (va_cpy f g sp.toNatClampNeg dp.toNatClampNeg n.toNatClampNeg)))) kc ks else zaL (h.1 q0) fun n0 f => zaL (h.1 q) fun n1 g => sp.toNatClampNeg + n.toNatClampNeg ≤ n0 ∧ dp.toNatClampNeg + n.toNatClampNeg ≤ n1 ∧ K L S (zup h q (.inl (1, n1, .inr (.inl (va_cpy f g sp.toNatClampNeg dp.toNatClampNeg n.toNatClampNeg))))) kc ks)
      else b ≤ S.length ∧ zwt (S.drop b) ≤ 8 ∧ kc + zmc (P a) ≤ zmc (P k) ∧ ks + zms (P a) ≤ zms (P k) ∧ C a (S.take b).reverse h fun x h2 => (match x with
        | .inl v => K L (v.toList ++ S.drop b) h2 (kc + zmc (P a)) (ks + zms (P a))
        | .inr _ => False)
    | .invokespecial _ => if d = 3 then zr1 S fun _ S => zwt S ≤ 8 ∧ K L S h kc ks
      else b ≤ S.length ∧ zwt (S.drop b) ≤ 8 ∧ kc + zmc (P a) ≤ zmc (P k) ∧ ks + zms (P a) ≤ zms (P k) ∧ (match (S.take b).reverse with
      | .ref q :: r => C a (.ref q :: r) h fun x h2 => (match x with
        | .inl none => K L (S.drop b) h2 (kc + zmc (P a)) (ks + zms (P a))
        | _ => False)
      | _ => False)
    | .ireturn => match S with
      | [.int v] => kc ≤ zmc (P k) ∧ ks ≤ zms (P k) ∧ (a = 1 → v = 0 ∨ v = 1) ∧ Q (.inl (some (.int v))) h
      | _ => False
    | .lreturn => match S with
      | [.long v] => kc ≤ zmc (P k) ∧ ks ≤ zms (P k) ∧ Q (.inl (some (.long v))) h
      | _ => False
    | .areturn => match S with
      | [.ref v] => kc ≤ zmc (P k) ∧ ks ≤ zms (P k) ∧ Q (.inl (some (.ref v))) h
      | _ => False
    | .return_ => match S with
      | [] => kc ≤ zmc (P k) ∧ ks ≤ zms (P k) ∧ Q (.inl none) h
      | _ => False
    | _ => False
/-- a stretch of instructions -/
def zrun (P : Nat → zM) (C : Nat → List Value → zH → zQ → Prop) (k : Nat) (J : Nat → zK) (Q : zQ) : List zOp → Nat → zK
  | [], e => J e
  | o :: r, e => zstp P C k J Q o (zrun P C k J Q r e)
/-- a block: by its label; the locals that it keeps -/
def zblk (P : Nat → zM) (C : Nat → List Value → zH → zQ → Prop) (k : Nat) (Q : zQ) (J : Nat → zK) (pc : Nat) : zK := fun L S h kc ks => match (zbl (P k)).find? (fun q => q.1 == pc) with
  | some (_, kp, ops, e) => zrun P C k J Q ops e (L.filter (fun q => kp.contains q.1)) S h kc ks
  | none => False
/-- from a label on: the least that is closed under blocks -/
def zfp (P : Nat → zM) (C : Nat → List Value → zH → zQ → Prop) (k : Nat) (Q : zQ) (pc : Nat) : zK := fun L S h kc ks =>
  ∀ I : Nat → zK, (∀ pc L S h kc ks, zblk P C k Q I pc L S h kc ks → I pc L S h kc ks) → I pc L S h kc ks
/-- a method: its callees are of lesser numbers -/
def zW (P : Nat → zM) (k : Nat) (args : List Value) (h : zH) (Q : zQ) : Prop :=
  zwt args ≤ zml (P k) ∧ zfp P (fun k' a h' Q' => ∃ _ : k' < k, zW P k' a h' Q') k Q 0 (lv_args 0 args) [] h 0 0
termination_by k
