/-! THE SMALL MACHINE IS SOUND -/
def zln (i : Instr) : Nat := match i with
  | .iconst _ => 1
  | .bipush _ => 2
  | .sipush _ => 3
  | .lconst _ => 1
  | .ldc _ => 2
  | .ldc_w _ => 3
  | .ldc2_w _ => 3
  | .iload _ => 2
  | .lload _ => 2
  | .aload _ => 2
  | .istore _ => 2
  | .lstore _ => 2
  | .astore _ => 2
  | .iinc _ _ => 3
  | .goto _ => 3
  | .ifCond _ _ => 3
  | .if_icmp _ _ => 3
  | .getfield _ => 3
  | .putfield _ => 3
  | .newarray _ => 2
  | .multianewarray _ _ => 4
  | .new _ => 3
  | .invokevirtual _ => 3
  | .invokestatic _ => 3
  | .invokespecial _ => 3
  | _ => 1
/-- a callee with a table of its own -/
def zCeW (M Ma : zM) (b : Nat) : Prop := ∃ hh, zhh Ma = some hh ∧ Cond.codeWith (zy Ma) (zcc Ma) (zml Ma) (zrt Ma) hh ∈ zGW ∧ Cond.initialized (zy Ma).cls ∈ zGW ∧ ((zy Ma).cls ≠ "java/lang/invoke/MethodHandle" ∧ (zy Ma).cls ≠ "java/lang/invoke/VarHandle" ∧ (parseMethodDescriptor (zy Ma).desc).map (fun d => d.parameters.length) = some b) ∧ (zfr Ma + 1 ≤ zfr M ∧ 8 + (zml Ma + 11) + zlo Ma ≤ zlo M)
/-- the JDK's two methods of texts, over the class's own texts -/
def zSt5 (l : Launch) (G : zG) : Prop := ∀ (p : Program) (e : Env) (R : Room) (s : State) (m : MethodId) (args : Array Value) (below : List Frame) (meth : Method) (c : Code) (Qf : State → Prop) (n pc : Nat) (K : zK) (L : zL) (S : List Value) (h : zH) (kc ks : Nat), p.tables.exec = Jvm.exec → c.maxLocals = n → (∀ w ∈ zGW, w.before args s = true) → s.vm.findClass RX5 = some m.cls → zT G s → (zb0 G ≤ s.heap.size ∧ ∀ q, q < zb0 G → s.heap[q]? = (zH0 G)[q]?) → 5 ≤ R.frames → 130 ≤ R.locals → decode c.code pc = .ok (.invokevirtual 165, 3) → zimp K (zsim p l e R s m args below meth c G n Qf (pc + 3)) → (zr1 S fun q S => ((1 ≤ q ∧ q ≤ 7) ∧ kc ≤ R.cells ∧ ks ≤ R.slots) ∧ zwt S ≤ 8 ∧ K L (.int (nI (zsl q)) :: S) h kc ks) → zsim p l e R s m args below meth c G n Qf pc L S h kc ks
def zSt6 (l : Launch) (G : zG) : Prop := ∀ (p : Program) (e : Env) (R : Room) (s : State) (m : MethodId) (args : Array Value) (below : List Frame) (meth : Method) (c : Code) (Qf : State → Prop) (n pc : Nat) (K : zK) (L : zL) (S : List Value) (h : zH) (kc ks : Nat), p.tables.exec = Jvm.exec → c.maxLocals = n → (∀ w ∈ zGW, w.before args s = true) → s.vm.findClass RX5 = some m.cls → zT G s → (zb0 G ≤ s.heap.size ∧ ∀ q, q < zb0 G → s.heap[q]? = (zH0 G)[q]?) → 5 ≤ R.frames → 130 ≤ R.locals → decode c.code pc = .ok (.invokevirtual 170, 3) → zimp K (zsim p l e R s m args below meth c G n Qf (pc + 3)) → (zir S fun j q S => ((1 ≤ q ∧ q ≤ 7) ∧ kc ≤ R.cells ∧ ks ≤ R.slots) ∧ zwt S ≤ 8 ∧ vp_in j (zsl q) ∧ K L (.int (zsc q j.toNatClampNeg) :: S) h kc ks) → zsim p l e R s m args below meth c G n Qf pc L S h kc ks
/-- what the tables say of an instruction -/
def zopP (P : Nat → zM) (k : Nat) (o : zOp) : Prop := match o with
  | (pc, i, len, a, b, d) => (match i with
    | .athrow => ∃ (ik ic is : Nat) (text : String), zTh (zcn (zown (P k))) ik ic (zex a) ∧ Cond.stringRef (zcn (zown (P k))) is text ∈ tables_1 ∧ 5 < zfr (P k) ∧ 90 ≤ zlo (P k) ∧ zhh (P k) = none ∧ ((decode (zcc (P k)) pc = .ok (.new ik, 3) ∧ decode (zcc (P k)) (pc + 3) = .ok (.dup, 1) ∧ decode (zcc (P k)) (pc + 4) = .ok (.ldc is, 2) ∧ decode (zcc (P k)) (pc + 6) = .ok (.invokespecial ic, 3) ∧ decode (zcc (P k)) (pc + 9) = .ok (.athrow, 1)) ∨ (decode (zcc (P k)) pc = .ok (.new ik, 3) ∧ decode (zcc (P k)) (pc + 3) = .ok (.dup, 1) ∧ decode (zcc (P k)) (pc + 4) = .ok (.ldc_w is, 3) ∧ decode (zcc (P k)) (pc + 7) = .ok (.invokespecial ic, 3) ∧ decode (zcc (P k)) (pc + 10) = .ok (.athrow, 1)))
    | .tableswitch dflt lo hi offs => decode (zcc (P k)) pc = .ok (i, len) ∧ (pc : Int) + dflt = (ztg pc dflt : Int) ∧ (∀ (j : Nat) (off : Int), offs.toList[j]? = some off → (pc : Int) + off = (ztg pc off : Int)) ∧ lo + offs.size = hi + 1
    | _ => decode (zcc (P k)) pc = .ok (i, len) ∧ len = zln i ∧ (match i with
      | .istore_n j => (j : Nat) < zml (P k)
      | .istore j => j < zml (P k)
      | .astore_n j => (j : Nat) < zml (P k)
      | .astore j => j < zml (P k)
      | .iinc j _ => j < zml (P k)
      | .lstore_n j => (j : Nat) + 1 < zml (P k)
      | .lstore j => j + 1 < zml (P k)
      | .goto off => (pc : Int) + off = (ztg pc off : Int)
      | .ifCond _ off => (pc : Int) + off = (ztg pc off : Int)
      | .if_icmp _ off => (pc : Int) + off = (ztg pc off : Int)
      | .getfield j => zFl (zcn (zown (P k))) j a b
      | .putfield j => zFl (zcn (zown (P k))) j a b ∧ ∀ r : vw_C, zcl[a]? = some r → (r.2.1 b).2.2.2 = false ∨ ((zy (P k)).name = "<init>" ∧ (r.2.1 b).1 = zcn (zown (P k)))
      | .multianewarray j d => d = 2 ∧ Cond.classLink (zcn (zown (P k))) j ("[" ++ (FieldType.array .int).toString) ∈ zGW
      | .new j => ∃ r : vw_C, zcl[a]? = some r ∧ Cond.classLink (zcn (zown (P k))) j r.1 ∈ zGW ∧ Cond.instantiable r.1 r.2.2 ∈ zGW ∧ Cond.initialized r.1 ∈ zGW
      | .invokevirtual j => if d = 5 then zown (P k) = 4 ∧ j = 165 ∧ 5 ≤ zfr (P k) ∧ 130 ≤ zlo (P k) else if d = 6 then zown (P k) = 4 ∧ j = 170 ∧ 5 ≤ zfr (P k) ∧ 130 ≤ zlo (P k) else zCe (zroom (P k)) (P a) (b - 1) ∧ Cond.methodLink (zcn (zown (P k))) j (zy (P a)) ∈ zGW ∧ Cond.instanceMethod (zy (P a)) ∈ zGW ∧ Cond.selects (zy (P a)).cls (zy (P a)) (zy (P a)) ∈ zGW ∧ ∀ r : vw_C, zcl[zown (P a)]? = some r → r.1 = (zy (P a)).cls
      | .invokestatic j => if d = 2 then Cond.methodLink (zcn (zown (P k))) j arraycopyName ∈ zGW ∧ 1 ≤ zfr (P k) ∧ 8 + (nativeFrameWords "java/lang/System" "arraycopy" 5 + 11) ≤ zlo (P k) else ((zCe (zroom (P k)) (P a) b ∧ (Cond.methodLink (zcn (zown (P k))) j (zy (P a)) ∈ zGW ∨ ∃ host, Cond.methodLinkNest (zcn (zown (P k))) j (zy (P a)) host ∈ zXW)) ∨ (zCeW (P k) (P a) b ∧ Cond.methodLink (zcn (zown (P k))) j (zy (P a)) ∈ zGW)) ∧ Cond.static (zy (P a)) ∈ zGW
      | .invokespecial j => if d = 3 then Cond.methodLink (zcn (zown (P k))) j objectInit ∈ zGW ∧ 1 ≤ zfr (P k) ∧ 20 ≤ zlo (P k) else zCe (zroom (P k)) (P a) (b - 1) ∧ zrt (P a) = none ∧ (zy (P a)).name = "<init>" ∧ (Cond.methodLink (zcn (zown (P k))) j (zy (P a)) ∈ zGW ∨ ∃ host, Cond.methodLinkNest (zcn (zown (P k))) j (zy (P a)) host ∈ zXW) ∧ Cond.instanceMethod (zy (P a)) ∈ zGW
      | .ireturn => zrt (P k) = some (if a = 1 then .boolean else .int)
      | .lreturn => zrt (P k) = some .long
      | .areturn => ∃ C, zrt (P k) = some (.object C)
      | .return_ => zrt (P k) = none
      | .ldc j => if a = 1 then zown (P k) = 4 ∧ ∃ z, z < 7 ∧ j = 151 + 2 * z ∧ b = 1 + z else Cond.constant (zcn (zown (P k))) j (Int32.ofInt d) ∈ zGW
      | .ldc_w j => Cond.constant (zcn (zown (P k))) j (Int32.ofInt d) ∈ zGW
      | .ldc2_w j => Cond.constantLong (zcn (zown (P k))) j (Int64.ofInt d) ∈ zGW
      | _ => True))
/-- words that no method owns -/
def zWok : Prop := Cond.arrayClass .int ∈ zGW ∧ Cond.arrayClass .long ∈ zGW ∧ Cond.native arraycopyName ∈ zGW ∧ Cond.static arraycopyName ∈ zGW ∧ Cond.initialized "java/lang/System" ∈ zGW ∧ Cond.instanceMethod objectInit ∈ zGW ∧ Cond.code objectInit ⟨#[0xb1]⟩ 1 none ∈ zGW
/-- a method's handlers beside its table -/
def zHok (M : zM) : Prop := (zhh M = none → zhd M = []) ∧ ∀ c : Code, c.exceptionTable.toList = tableOf ((zhh M).getD []) → (∀ pc E t pl, zthr (zhd M) pc E = some (t, pl) → zCat (zcn (zown M)) c (zcc M) (zml M) pc E t pl) ∧ ((zhd M).isEmpty = true → ∀ x ∈ c.exceptionTable.toList, False)
section ZZ
variable {p : Program} {l : Launch} {e : Env} {s : State} {m : MethodId} {args : Array Value} {below : List Frame} {meth : Method} {c : Code} {G : zG} {P : Nat → zM} {C : Nat → List Value → zH → zQ → Prop} {k : Nat} {Q : zQ}
set_option maxHeartbeats 2000000 in
theorem zstp_sound (hSt5 : zSt5 l G) (hSt6 : zSt6 l G) (hCL : zCLok) (hWk : zWok) (hx : p.tables.exec = Jvm.exec) (hb : c.code = zcc (P k)) (hml : c.maxLocals = zml (P k)) (hr0 : meth.sig.returnType = zrt (P k)) (hlocks : meth.locks = false) (hl : l.stackTraces = false) (hown : s.vm.findClass (zcn (zown (P k))) = some m.cls) (hts : ∀ w ∈ zGW, w.before args s = true) (hT : zT G s) (hs0 : zb0 G ≤ s.heap.size ∧ ∀ q, q < zb0 G → s.heap[q]? = (zH0 G)[q]?) (hnm : meth.name = (zy (P k)).name) (htab : c.exceptionTable.toList = tableOf ((zhh (P k)).getD [])) (hH : zHok (P k))
    (hC : ∀ a av h' Q', C a av h' Q' → zMet l G (P a) av h' Q') {J : Nat → zK} {K : zK} {o : zOp} (ho : zopP P k o)
    (hJ : ∀ t, zimp (J t) (zsim p l e (zroom (P k)) s m args below meth c G (zml (P k)) (zend below G Q args s (zmc (P k)) (zms (P k))) t)) (hK : zimp K (zsim p l e (zroom (P k)) s m args below meth c G (zml (P k)) (zend below G Q args s (zmc (P k)) (zms (P k))) (o.1 + o.2.2.1))) :
    zimp (zstp P C k J Q o K) (zsim p l e (zroom (P k)) s m args below meth c G (zml (P k)) (zend below G Q args s (zmc (P k)) (zms (P k))) o.1) := by
  intro L S h kc ks hst
  obtain ⟨pc, i, len, a, b, d⟩ := o
  dsimp only at hK ⊢
  obtain ⟨wI, wL, wcn, wcs, wci, wo1, wo2⟩ := hWk
  have hout : (zhh (P k)) = none → ∀ x ∈ c.exceptionTable.toList, False := fun hn => (hH.2 c htab).2 (by rw [hH.1 hn]; rfl)
  cases i
  all_goals first
    | exact (show False from hst).elim
    | skip
  case iconst z =>
    obtain ⟨hd, hlen, -⟩ := (show decode (zcc (P k)) pc = .ok (_, len) ∧ len = zln _ ∧ True from ho)
    subst hlen
    exact zs_iconst hx hb hd hK hst
  case bipush z =>
    obtain ⟨hd, hlen, -⟩ := (show decode (zcc (P k)) pc = .ok (_, len) ∧ len = zln _ ∧ True from ho)
    subst hlen
    exact zs_bipush hx hb hd hK hst
  case sipush z =>
    obtain ⟨hd, hlen, -⟩ := (show decode (zcc (P k)) pc = .ok (_, len) ∧ len = zln _ ∧ True from ho)
    subst hlen
    exact zs_sipush hx hb hd hK hst
  case lconst z =>
    obtain ⟨hd, hlen, -⟩ := (show decode (zcc (P k)) pc = .ok (_, len) ∧ len = zln _ ∧ True from ho)
    subst hlen
    exact zs_lconst hx hb hd hK hst
  case iload_n z =>
    obtain ⟨hd, hlen, -⟩ := (show decode (zcc (P k)) pc = .ok (_, len) ∧ len = zln _ ∧ True from ho)
    subst hlen
    exact zs_iload_n hx hb hd hK hst
  case iload z =>
    obtain ⟨hd, hlen, -⟩ := (show decode (zcc (P k)) pc = .ok (_, len) ∧ len = zln _ ∧ True from ho)
    subst hlen
    exact zs_iload hx hb hd hK hst
  case lload_n z =>
    obtain ⟨hd, hlen, -⟩ := (show decode (zcc (P k)) pc = .ok (_, len) ∧ len = zln _ ∧ True from ho)
    subst hlen
    exact zs_lload_n hx hb hd hK hst
  case lload z =>
    obtain ⟨hd, hlen, -⟩ := (show decode (zcc (P k)) pc = .ok (_, len) ∧ len = zln _ ∧ True from ho)
    subst hlen
    exact zs_lload hx hb hd hK hst
  case aload_n z =>
    obtain ⟨hd, hlen, -⟩ := (show decode (zcc (P k)) pc = .ok (_, len) ∧ len = zln _ ∧ True from ho)
    subst hlen
    exact zs_aload_n hx hb hd hK hst
  case aload z =>
    obtain ⟨hd, hlen, -⟩ := (show decode (zcc (P k)) pc = .ok (_, len) ∧ len = zln _ ∧ True from ho)
    subst hlen
    exact zs_aload hx hb hd hK hst
  case iadd =>
    obtain ⟨hd, hlen, -⟩ := (show decode (zcc (P k)) pc = .ok (_, len) ∧ len = zln _ ∧ True from ho)
    subst hlen
    exact zs_iadd hx hb hd hK hst
  case isub =>
    obtain ⟨hd, hlen, -⟩ := (show decode (zcc (P k)) pc = .ok (_, len) ∧ len = zln _ ∧ True from ho)
    subst hlen
    exact zs_isub hx hb hd hK hst
  case imul =>
    obtain ⟨hd, hlen, -⟩ := (show decode (zcc (P k)) pc = .ok (_, len) ∧ len = zln _ ∧ True from ho)
    subst hlen
    exact zs_imul hx hb hd hK hst
  case idiv =>
    obtain ⟨hd, hlen, -⟩ := (show decode (zcc (P k)) pc = .ok (_, len) ∧ len = zln _ ∧ True from ho)
    subst hlen
    exact zs_idiv hx hb hd hK hst
  case irem =>
    obtain ⟨hd, hlen, -⟩ := (show decode (zcc (P k)) pc = .ok (_, len) ∧ len = zln _ ∧ True from ho)
    subst hlen
    exact zs_irem hx hb hd hK hst
  case iand =>
    obtain ⟨hd, hlen, -⟩ := (show decode (zcc (P k)) pc = .ok (_, len) ∧ len = zln _ ∧ True from ho)
    subst hlen
    exact zs_iand hx hb hd hK hst
  case ior =>
    obtain ⟨hd, hlen, -⟩ := (show decode (zcc (P k)) pc = .ok (_, len) ∧ len = zln _ ∧ True from ho)
    subst hlen
    exact zs_ior hx hb hd hK hst
  case ixor =>
    obtain ⟨hd, hlen, -⟩ := (show decode (zcc (P k)) pc = .ok (_, len) ∧ len = zln _ ∧ True from ho)
    subst hlen
    exact zs_ixor hx hb hd hK hst
  case ishl =>
    obtain ⟨hd, hlen, -⟩ := (show decode (zcc (P k)) pc = .ok (_, len) ∧ len = zln _ ∧ True from ho)
    subst hlen
    exact zs_ishl hx hb hd hK hst
  case ishr =>
    obtain ⟨hd, hlen, -⟩ := (show decode (zcc (P k)) pc = .ok (_, len) ∧ len = zln _ ∧ True from ho)
    subst hlen
    exact zs_ishr hx hb hd hK hst
  case iushr =>
    obtain ⟨hd, hlen, -⟩ := (show decode (zcc (P k)) pc = .ok (_, len) ∧ len = zln _ ∧ True from ho)
    subst hlen
    exact zs_iushr hx hb hd hK hst
  case ineg =>
    obtain ⟨hd, hlen, -⟩ := (show decode (zcc (P k)) pc = .ok (_, len) ∧ len = zln _ ∧ True from ho)
    subst hlen
    exact zs_ineg hx hb hd hK hst
  case ladd =>
    obtain ⟨hd, hlen, -⟩ := (show decode (zcc (P k)) pc = .ok (_, len) ∧ len = zln _ ∧ True from ho)
    subst hlen
    exact zs_ladd hx hb hd hK hst
  case lsub =>
    obtain ⟨hd, hlen, -⟩ := (show decode (zcc (P k)) pc = .ok (_, len) ∧ len = zln _ ∧ True from ho)
    subst hlen
    exact zs_lsub hx hb hd hK hst
  case land =>
    obtain ⟨hd, hlen, -⟩ := (show decode (zcc (P k)) pc = .ok (_, len) ∧ len = zln _ ∧ True from ho)
    subst hlen
    exact zs_land hx hb hd hK hst
  case lor =>
    obtain ⟨hd, hlen, -⟩ := (show decode (zcc (P k)) pc = .ok (_, len) ∧ len = zln _ ∧ True from ho)
    subst hlen
    exact zs_lor hx hb hd hK hst
  case lxor =>
    obtain ⟨hd, hlen, -⟩ := (show decode (zcc (P k)) pc = .ok (_, len) ∧ len = zln _ ∧ True from ho)
    subst hlen
    exact zs_lxor hx hb hd hK hst
  case lneg =>
    obtain ⟨hd, hlen, -⟩ := (show decode (zcc (P k)) pc = .ok (_, len) ∧ len = zln _ ∧ True from ho)
    subst hlen
    exact zs_lneg hx hb hd hK hst
  case lshl =>
    obtain ⟨hd, hlen, -⟩ := (show decode (zcc (P k)) pc = .ok (_, len) ∧ len = zln _ ∧ True from ho)
    subst hlen
    exact zs_lshl hx hb hd hK hst
  case lushr =>
    obtain ⟨hd, hlen, -⟩ := (show decode (zcc (P k)) pc = .ok (_, len) ∧ len = zln _ ∧ True from ho)
    subst hlen
    exact zs_lushr hx hb hd hK hst
  case i2l =>
    obtain ⟨hd, hlen, -⟩ := (show decode (zcc (P k)) pc = .ok (_, len) ∧ len = zln _ ∧ True from ho)
    subst hlen
    exact zs_i2l hx hb hd hK hst
  case l2i =>
    obtain ⟨hd, hlen, -⟩ := (show decode (zcc (P k)) pc = .ok (_, len) ∧ len = zln _ ∧ True from ho)
    subst hlen
    exact zs_l2i hx hb hd hK hst
  case lcmp =>
    obtain ⟨hd, hlen, -⟩ := (show decode (zcc (P k)) pc = .ok (_, len) ∧ len = zln _ ∧ True from ho)
    subst hlen
    exact zs_lcmp hx hb hd hK hst
  case dup =>
    obtain ⟨hd, hlen, -⟩ := (show decode (zcc (P k)) pc = .ok (_, len) ∧ len = zln _ ∧ True from ho)
    subst hlen
    exact zs_dup hx hb hd hK hst
  case dup2 =>
    obtain ⟨hd, hlen, -⟩ := (show decode (zcc (P k)) pc = .ok (_, len) ∧ len = zln _ ∧ True from ho)
    subst hlen
    exact zs_dup2 hx hb hd hK hst
  case pop =>
    obtain ⟨hd, hlen, -⟩ := (show decode (zcc (P k)) pc = .ok (_, len) ∧ len = zln _ ∧ True from ho)
    subst hlen
    exact zs_pop hx hb hd hK hst
  case istore_n z =>
    obtain ⟨hd, hlen, hi⟩ := (show decode (zcc (P k)) pc = .ok (_, len) ∧ len = zln _ ∧ _ from ho)
    subst hlen
    exact zs_istore_n hx hb hi hd hK hst
  case istore z =>
    obtain ⟨hd, hlen, hi⟩ := (show decode (zcc (P k)) pc = .ok (_, len) ∧ len = zln _ ∧ _ from ho)
    subst hlen
    exact zs_istore hx hb hi hd hK hst
  case astore_n z =>
    obtain ⟨hd, hlen, hi⟩ := (show decode (zcc (P k)) pc = .ok (_, len) ∧ len = zln _ ∧ _ from ho)
    subst hlen
    exact zs_astore_n hx hb hi hd hK hst
  case astore z =>
    obtain ⟨hd, hlen, hi⟩ := (show decode (zcc (P k)) pc = .ok (_, len) ∧ len = zln _ ∧ _ from ho)
    subst hlen
    exact zs_astore hx hb hi hd hK hst
  case lstore_n z =>
    obtain ⟨hd, hlen, hi⟩ := (show decode (zcc (P k)) pc = .ok (_, len) ∧ len = zln _ ∧ _ from ho)
    subst hlen
    exact zs_lstore_n hx hb hi hd hK hst
  case lstore z =>
    obtain ⟨hd, hlen, hi⟩ := (show decode (zcc (P k)) pc = .ok (_, len) ∧ len = zln _ ∧ _ from ho)
    subst hlen
    exact zs_lstore hx hb hi hd hK hst
  case iinc z y =>
    obtain ⟨hd, hlen, hi⟩ := (show decode (zcc (P k)) pc = .ok (_, len) ∧ len = zln _ ∧ _ from ho)
    subst hlen
    exact zs_iinc hx hb hi hd hK hst
  case goto off =>
    obtain ⟨hd, hlen, ht⟩ := (show decode (zcc (P k)) pc = .ok (_, len) ∧ len = zln _ ∧ _ from ho)
    subst hlen
    exact zs_goto hx hb hd (hJ _) ht hst
  case ifCond cd off =>
    cases cd
    case eq =>
      obtain ⟨hd, hlen, ht⟩ := (show decode (zcc (P k)) pc = .ok (_, len) ∧ len = zln _ ∧ _ from ho)
      subst hlen
      exact zs_if_eq hx hb (hJ _) ht hd hK hst
    case ne =>
      obtain ⟨hd, hlen, ht⟩ := (show decode (zcc (P k)) pc = .ok (_, len) ∧ len = zln _ ∧ _ from ho)
      subst hlen
      exact zs_if_ne hx hb (hJ _) ht hd hK hst
    case lt =>
      obtain ⟨hd, hlen, ht⟩ := (show decode (zcc (P k)) pc = .ok (_, len) ∧ len = zln _ ∧ _ from ho)
      subst hlen
      exact zs_if_lt hx hb (hJ _) ht hd hK hst
    case ge =>
      obtain ⟨hd, hlen, ht⟩ := (show decode (zcc (P k)) pc = .ok (_, len) ∧ len = zln _ ∧ _ from ho)
      subst hlen
      exact zs_if_ge hx hb (hJ _) ht hd hK hst
    case gt =>
      obtain ⟨hd, hlen, ht⟩ := (show decode (zcc (P k)) pc = .ok (_, len) ∧ len = zln _ ∧ _ from ho)
      subst hlen
      exact zs_if_gt hx hb (hJ _) ht hd hK hst
    case le =>
      obtain ⟨hd, hlen, ht⟩ := (show decode (zcc (P k)) pc = .ok (_, len) ∧ len = zln _ ∧ _ from ho)
      subst hlen
      exact zs_if_le hx hb (hJ _) ht hd hK hst
  case if_icmp cd off =>
    cases cd
    case eq =>
      obtain ⟨hd, hlen, ht⟩ := (show decode (zcc (P k)) pc = .ok (_, len) ∧ len = zln _ ∧ _ from ho)
      subst hlen
      exact zs_icmp_eq hx hb (hJ _) ht hd hK hst
    case ne =>
      obtain ⟨hd, hlen, ht⟩ := (show decode (zcc (P k)) pc = .ok (_, len) ∧ len = zln _ ∧ _ from ho)
      subst hlen
      exact zs_icmp_ne hx hb (hJ _) ht hd hK hst
    case lt =>
      obtain ⟨hd, hlen, ht⟩ := (show decode (zcc (P k)) pc = .ok (_, len) ∧ len = zln _ ∧ _ from ho)
      subst hlen
      exact zs_icmp_lt hx hb (hJ _) ht hd hK hst
    case ge =>
      obtain ⟨hd, hlen, ht⟩ := (show decode (zcc (P k)) pc = .ok (_, len) ∧ len = zln _ ∧ _ from ho)
      subst hlen
      exact zs_icmp_ge hx hb (hJ _) ht hd hK hst
    case gt =>
      obtain ⟨hd, hlen, ht⟩ := (show decode (zcc (P k)) pc = .ok (_, len) ∧ len = zln _ ∧ _ from ho)
      subst hlen
      exact zs_icmp_gt hx hb (hJ _) ht hd hK hst
    case le =>
      obtain ⟨hd, hlen, ht⟩ := (show decode (zcc (P k)) pc = .ok (_, len) ∧ len = zln _ ∧ _ from ho)
      subst hlen
      exact zs_icmp_le hx hb (hJ _) ht hd hK hst
  case tableswitch dflt lo hi offs =>
    obtain ⟨hd, h0, h1, h2⟩ := ho
    exact zs_table hx hb hd hJ h0 h1 h2 hst
  case getfield j =>
    obtain ⟨hd, hlen, hF⟩ := (show decode (zcc (P k)) pc = .ok (_, len) ∧ len = zln _ ∧ _ from ho)
    subst hlen
    exact zs_getfield hx hb hCL hts hown hT.1 hF hd hK hst
  case putfield j =>
    obtain ⟨hd, hlen, hF, hfin⟩ := (show decode (zcc (P k)) pc = .ok (_, len) ∧ len = zln _ ∧ _ ∧ _ from ho)
    subst hlen
    exact zs_putfield hx hb hCL hts hown hT.1 hF (fun r hr => (hfin r hr).imp id (fun z => ⟨hnm.trans z.1, z.2⟩)) hd hK hst
  case iaload =>
    obtain ⟨hd, hlen, -⟩ := (show decode (zcc (P k)) pc = .ok (_, len) ∧ len = zln _ ∧ True from ho)
    subst hlen
    exact zs_iaload hx hb hT.1 hd hK hst
  case laload =>
    obtain ⟨hd, hlen, -⟩ := (show decode (zcc (P k)) pc = .ok (_, len) ∧ len = zln _ ∧ True from ho)
    subst hlen
    exact zs_laload hx hb hT.1 hd hK hst
  case aaload =>
    obtain ⟨hd, hlen, -⟩ := (show decode (zcc (P k)) pc = .ok (_, len) ∧ len = zln _ ∧ True from ho)
    subst hlen
    exact zs_aaload hx hb hT.1 hd hK hst
  case iastore =>
    obtain ⟨hd, hlen, -⟩ := (show decode (zcc (P k)) pc = .ok (_, len) ∧ len = zln _ ∧ True from ho)
    subst hlen
    exact zs_iastore hx hb hT.1 hd hK hst
  case lastore =>
    obtain ⟨hd, hlen, -⟩ := (show decode (zcc (P k)) pc = .ok (_, len) ∧ len = zln _ ∧ True from ho)
    subst hlen
    exact zs_lastore hx hb hT.1 hd hK hst
  case arraylength =>
    obtain ⟨hd, hlen, -⟩ := (show decode (zcc (P k)) pc = .ok (_, len) ∧ len = zln _ ∧ True from ho)
    subst hlen
    exact zs_arraylength hx hb hT.1 hd hK hst
  case newarray ty =>
    obtain ⟨hd, hlen, -⟩ := (show decode (zcc (P k)) pc = .ok (_, len) ∧ len = zln _ ∧ True from ho)
    subst hlen
    match S, hst with
    | .int N :: S, ⟨h1, h2, h3, h4, h5⟩ =>
      cases ty
      case int => exact zs_newarrayI (S := .int N :: S) hx hb hts hT.1 wI hd hK ⟨h1, h2, h3, h4, h5⟩
      case long => exact zs_newarrayL (S := .int N :: S) hx hb hts hT.1 wL hd hK ⟨h1, h2, h3, h4, h5⟩
      all_goals exact (show False from h5).elim
  case multianewarray j dd =>
    obtain ⟨hd, hlen, hdd, hw⟩ := (show decode (zcc (P k)) pc = .ok (_, len) ∧ len = zln _ ∧ _ ∧ _ from ho)
    subst hlen
    subst hdd
    exact zs_multi hx hb hts hown hT hw wI hd rfl rfl hK hst
  case new j =>
    obtain ⟨hd, hlen, r, hc, w1, w2, w3⟩ := (show decode (zcc (P k)) pc = .ok (_, len) ∧ len = zln _ ∧ _ from ho)
    subst hlen
    exact zs_new hx hb hCL hts hown hT.1 hc w1 w2 w3 hd hK hst
  case athrow =>
    obtain ⟨ik, ic, is, text, hth, wst, hf, hl9, hhn, hd⟩ := ho
    exact zs_throw hx hb hml hlocks hl hts hown hT hs0 hth wst (hout hhn) hf hl9 rfl rfl hd hst
  case invokevirtual j =>
    obtain ⟨hd, hlen, hw⟩ := (show decode (zcc (P k)) pc = .ok (_, len) ∧ len = zln _ ∧ _ from ho)
    subst hlen
    by_cases hd5 : d = 5
    · subst hd5
      obtain ⟨g1, rfl, g3, g4⟩ := hw
      have hown4 : s.vm.findClass RX5 = some m.cls := by rw [g1] at hown; exact hown
      exact hSt5 p e _ s m args below meth c _ _ pc K L S h kc ks hx hml hts hown4 hT hs0 g3 g4 (by rw [hb]; exact hd) hK hst
    by_cases hd6 : d = 6
    · subst hd6
      obtain ⟨g1, rfl, g3, g4⟩ := hw
      have hown4 : s.vm.findClass RX5 = some m.cls := by rw [g1] at hown; exact hown
      exact hSt6 p e _ s m args below meth c _ _ pc K L S h kc ks hx hml hts hown4 hT hs0 g3 g4 (by rw [hb]; exact hd) hK hst
    have hw2 := hw
    have hst2 : zstp P C k J Q (pc, .invokevirtual j, zln (.invokevirtual j), a, b, d) K L S h kc ks := hst
    unfold zstp at hst2
    simp only [if_neg hd5, if_neg hd6] at hst2 hw2
    obtain ⟨hCe, w1, w2, w3, hcl⟩ := hw2
    exact zs_virtual hx hb hml hlocks hts hown hT (hC a) hCe w1 w2 w3 hcl (fun E t pl hz => (hH.2 c htab).1 pc E t pl hz) (fun he x hx0 => ((hH.2 c htab).2 he x hx0).elim) rfl rfl hd hK hJ hst2
  case invokestatic j =>
    obtain ⟨hd, hlen, hw⟩ := (show decode (zcc (P k)) pc = .ok (_, len) ∧ len = zln _ ∧ _ from ho)
    subst hlen
    by_cases hd2 : d = 2
    · subst hd2
      obtain ⟨w1, hf, hl9⟩ := hw
      by_cases ha : a = 0
      · subst ha
        exact zs_copyI hx hb hml hts hown hT w1 wcn wcs wci hf hl9 hd hK hst
      · have hst2 : zstp P C k J Q (pc, .invokestatic j, zln (.invokestatic j), a, b, 2) K L S h kc ks := hst
        unfold zstp at hst2
        simp only [if_true, if_neg ha] at hst2
        exact zs_copyL hx hb hml hts hown hT w1 wcn wcs wci hf hl9 hd hK hst2
    · have hw2 := hw
      have hst2 : zstp P C k J Q (pc, .invokestatic j, zln (.invokestatic j), a, b, d) K L S h kc ks := hst
      unfold zstp at hst2
      simp only [if_neg hd2] at hst2 hw2
      obtain ⟨h1, w2⟩ := hw2
      rcases h1 with ⟨hCe, w1⟩ | ⟨⟨hh, g1, g2, g3, g4, g5⟩, w1⟩
      · exact zs_static hx hb hml hts hown hT (hC a) hCe w1 w2 rfl rfl hd hK hst2
      · exact zs_staticW hx hb hml hts hown hT (hC a) g1 g2 g3 g4 g5 w1 w2 rfl rfl hd hK hst2
  case invokespecial j =>
    obtain ⟨hd, hlen, hw⟩ := (show decode (zcc (P k)) pc = .ok (_, len) ∧ len = zln _ ∧ _ from ho)
    subst hlen
    by_cases hd2 : d = 3
    · subst hd2
      obtain ⟨w1, hf, hl9⟩ := hw
      exact zs_objinit hx hb hml hts hown w1 wo1 wo2 hf hl9 hd hK hst
    · have hw2 := hw
      have hst2 : zstp P C k J Q (pc, .invokespecial j, zln (.invokespecial j), a, b, d) K L S h kc ks := hst
      unfold zstp at hst2
      simp only [if_neg hd2] at hst2 hw2
      obtain ⟨hCe, g1, g2, w1, w2⟩ := hw2
      exact zs_special hx hb hml hts hown hT (hC a) hCe g1 g2 w1 w2 rfl rfl hd hK hst2
  case ireturn =>
    obtain ⟨hd, hlen, hr⟩ := (show decode (zcc (P k)) pc = .ok (_, len) ∧ len = zln _ ∧ _ from ho)
    subst hlen
    exact zs_ireturn hx hb hlocks (hr0.trans hr) hd hst
  case lreturn =>
    obtain ⟨hd, hlen, hr⟩ := (show decode (zcc (P k)) pc = .ok (_, len) ∧ len = zln _ ∧ _ from ho)
    subst hlen
    exact zs_lreturn hx hb hlocks (hr0.trans hr) hd hst
  case areturn =>
    obtain ⟨hd, hlen, C9, hr⟩ := (show decode (zcc (P k)) pc = .ok (_, len) ∧ len = zln _ ∧ _ from ho)
    subst hlen
    exact zs_areturn hx hb hlocks (hr0.trans hr) hd hst
  case return_ =>
    obtain ⟨hd, hlen, hr⟩ := (show decode (zcc (P k)) pc = .ok (_, len) ∧ len = zln _ ∧ _ from ho)
    subst hlen
    exact zs_return hx hb hlocks (hr0.trans hr) hd hst
  case ldc j =>
    obtain ⟨hd, hlen, hw⟩ := (show decode (zcc (P k)) pc = .ok (_, len) ∧ len = zln _ ∧ _ from ho)
    subst hlen
    by_cases ha : a = 1
    · subst ha
      obtain ⟨ho4, z, hz, rfl, rfl⟩ := hw
      have hown4 : s.vm.findClass RX5 = some m.cls := by rw [ho4] at hown; exact hown
      exact zs_ldcS hx hb hT hown4 hz hd hK hst
    · have hw2 := hw
      have hst2 : zstp P C k J Q (pc, .ldc j, zln (.ldc j), a, b, d) K L S h kc ks := hst
      unfold zstp at hst2
      simp only [if_neg ha] at hst2 hw2
      exact zs_ldcI hx hb hts hown hw2 hd hK hst2
  case ldc_w j =>
    obtain ⟨hd, hlen, hw⟩ := (show decode (zcc (P k)) pc = .ok (_, len) ∧ len = zln _ ∧ _ from ho)
    subst hlen
    exact zs_ldcW hx hb hts hown hw hd hK hst
  case ldc2_w j =>
    obtain ⟨hd, hlen, hw⟩ := (show decode (zcc (P k)) pc = .ok (_, len) ∧ len = zln _ ∧ _ from ho)
    subst hlen
    exact zs_ldc2 hx hb hts hown hw hd hK hst
end ZZ

/-! from one instruction to a block, to a method -/
def zseq : List zOp → Nat → Nat → Bool
  | [], pc, e => pc == e
  | o :: r, pc, e => o.1 == pc && zseq r (o.1 + o.2.2.1) e
section ZY
variable {p : Program} {l : Launch} {e : Env} {s : State} {m : MethodId} {args : Array Value} {below : List Frame} {meth : Method} {c : Code} {G : zG} {P : Nat → zM} {C : Nat → List Value → zH → zQ → Prop} {k : Nat} {Q : zQ}
theorem zrun_sound (hSt5 : zSt5 l G) (hSt6 : zSt6 l G) (hCL : zCLok) (hWk : zWok) (hx : p.tables.exec = Jvm.exec) (hb : c.code = zcc (P k)) (hml : c.maxLocals = zml (P k)) (hr0 : meth.sig.returnType = zrt (P k)) (hlocks : meth.locks = false) (hl : l.stackTraces = false) (hown : s.vm.findClass (zcn (zown (P k))) = some m.cls) (hts : ∀ w ∈ zGW, w.before args s = true) (hT : zT G s) (hs0 : zb0 G ≤ s.heap.size ∧ ∀ q, q < zb0 G → s.heap[q]? = (zH0 G)[q]?) (hnm : meth.name = (zy (P k)).name) (htab : c.exceptionTable.toList = tableOf ((zhh (P k)).getD [])) (hH : zHok (P k))
    (hC : ∀ a av h' Q', C a av h' Q' → zMet l G (P a) av h' Q') {J : Nat → zK}
    (hJ : ∀ t, zimp (J t) (zsim p l e (zroom (P k)) s m args below meth c G (zml (P k)) (zend below G Q args s (zmc (P k)) (zms (P k))) t)) {ep : Nat} : ∀ (ops : List zOp) (pc : Nat), (∀ o ∈ ops, zopP P k o) → zseq ops pc ep = true →
    zimp (zrun P C k J Q ops ep) (zsim p l e (zroom (P k)) s m args below meth c G (zml (P k)) (zend below G Q args s (zmc (P k)) (zms (P k))) pc)
  | [], pc, _, hs => by
    rw [zseq, beq_iff_eq] at hs
    subst hs
    exact hJ _
  | o :: r, pc, ho, hs => by
    rw [zseq, Bool.and_eq_true, beq_iff_eq] at hs
    obtain ⟨rfl, hs⟩ := hs
    exact zstp_sound hSt5 hSt6 hCL hWk hx hb hml hr0 hlocks hl hown hts hT hs0 hnm htab hH hC (ho o List.mem_cons_self) hJ (zrun_sound hSt5 hSt6 hCL hWk hx hb hml hr0 hlocks hl hown hts hT hs0 hnm htab hH hC hJ r _ (fun x hx0 => ho x (List.mem_cons_of_mem _ hx0)) hs)
/-- a method's blocks are its code -/
def zBok (P : Nat → zM) (k : Nat) : Prop := ∀ q ∈ zbl (P k), (∀ o ∈ q.2.2.1, zopP P k o) ∧ zseq q.2.2.1 q.1 q.2.2.2 = true
theorem zfp_sound (hSt5 : zSt5 l G) (hSt6 : zSt6 l G) (hCL : zCLok) (hWk : zWok) (hx : p.tables.exec = Jvm.exec) (hb : c.code = zcc (P k)) (hml : c.maxLocals = zml (P k)) (hr0 : meth.sig.returnType = zrt (P k)) (hlocks : meth.locks = false) (hl : l.stackTraces = false) (hown : s.vm.findClass (zcn (zown (P k))) = some m.cls) (hts : ∀ w ∈ zGW, w.before args s = true) (hT : zT G s) (hs0 : zb0 G ≤ s.heap.size ∧ ∀ q, q < zb0 G → s.heap[q]? = (zH0 G)[q]?) (hnm : meth.name = (zy (P k)).name) (htab : c.exceptionTable.toList = tableOf ((zhh (P k)).getD [])) (hH : zHok (P k)) (hB : zBok P k)
    (hC : ∀ a av h' Q', C a av h' Q' → zMet l G (P a) av h' Q') {pc : Nat} : zimp (zfp P C k Q pc) (zsim p l e (zroom (P k)) s m args below meth c G (zml (P k)) (zend below G Q args s (zmc (P k)) (zms (P k))) pc) := by
  intro L S h kc ks hst
  refine hst (fun pc => zsim p l e (zroom (P k)) s m args below meth c G (zml (P k)) (zend below G Q args s (zmc (P k)) (zms (P k))) pc) ?_
  intro pc L S h kc ks hblk
  unfold zblk at hblk
  split at hblk
  · rename_i lb kp ops ep hf
    have hm := List.mem_of_find?_eq_some hf
    have hpc := List.find?_some hf
    simp at hpc
    subst hpc
    obtain ⟨h1, h2⟩ := hB _ hm
    intro H locs ls hr hll hv
    exact zrun_sound hSt5 hSt6 hCL hWk hx hb hml hr0 hlocks hl hown hts hT hs0 hnm htab hH hC (fun t L S h kc ks z => z) ops lb h1 h2 _ _ _ _ _ hblk H locs ls hr hll (zlv_filter _ hv)
  · exact hblk.elim
end ZY
/-- what is asked of the whole program's table -/
def zPok (P : Nat → zM) (N : Nat) : Prop := ∀ k, k < N → zHok (P k) ∧ zBok P k ∧ plainFor (zy (P k)) = true ∧ (zy (P k)).cls = zcn (zown (P k))
theorem zv_args (G : zG) : ∀ (vs : List Value) (i : Nat), lv_args i (vs.map (zv G)) = zlv G (lv_args i vs)
  | [], _ => rfl
  | v :: vs, i => by
    show (i, zv G v) :: lv_args (if (zv G v).category = 2 then i + 2 else i + 1) (vs.map (zv G)) = (i, zv G v) :: zlv G (lv_args (if v.category = 2 then i + 2 else i + 1) vs)
    rw [zv_cat, zv_args G vs]
theorem zsl_len (G : zG) : ∀ av : List Value, (lg_sl (av.map (zv G))).length = zwt av
  | [] => rfl
  | v :: r => by
    have ih := zsl_len G r
    cases v <;> simp [lg_sl, zv, zwt, Value.category] at ih ⊢ <;> omega
theorem zW_sound {P : Nat → zM} {N : Nat} (hCL : zCLok) (hWk : zWok) (hP : zPok P N) {l : Launch} (hl : l.stackTraces = false) (G : zG) (hSt5 : zSt5 l G) (hSt6 : zSt6 l G) : ∀ (k : Nat), k < N → ∀ av h Q, zW P k av h Q → zMet l G (P k) av h Q := by
  intro k
  induction k using Nat.strongRecOn with
  | ind k ih =>
    intro hk av h Q hW0
    rw [zW] at hW0
    obtain ⟨hwt, hW0⟩ := hW0
    have hlen : (lg_sl (av.map (zv G))).length ≤ zml (P k) := by rw [zsl_len]; exact hwt
    obtain ⟨hH, hB, hpn, hcn⟩ := hP k hk
    have hC : ∀ a av' h' Q', (∃ _ : a < k, zW P a av' h' Q') → zMet l G (P a) av' h' Q' := fun a av' h' Q' ⟨ha, hz⟩ => ih a ha (Nat.lt_trans ha hk) av' h' Q' hz
    have go : ∀ (p : Program) (e : Env) (s : State) (m : MethodId) (args : Array Value) (below : List Frame) (meth : Method) (c : Code) (s₁ : State), BodyLoose p l (zy (P k)) (headSpec (zws (P k)) (zroom (P k))) (zcc (P k)) (zml (P k)) (zrt (P k)) e s m args below meth c s₁ → c.maxLocals = zml (P k) → c.exceptionTable.toList = tableOf ((zhh (P k)).getD []) → zPc G av h args s →
      W p l e (headSpec (zws (P k)) (zroom (P k))).room s m args below meth c s.heap [] 0 0 (vx_MQ below (zQc G Q) (zXC G Q) args s (zmc (P k)) (zms (P k)) (zfree G)) (entryFrame m args (zml (P k))) := by
      intro p e s m args below meth c s₁ B hml htab hPc
      obtain ⟨rfl, hr, hT⟩ := hPc
      have hts := atoms_spec (ws := zws (P k)) B.pre
      have hown : s.vm.findClass (zcn (zown (P k))) = some m.cls := by rw [← hcn]; exact findClass_of_methodNamed B.named
      have hnm : meth.name = (zy (P k)).name := (name_of_methodNamed B.named B.method).1
      have hlv := lv_entry (av.map (zv G)) (n := zml (P k)) hlen
      rw [lg_entry_eq]
      generalize (lg_sl (av.map (zv G)) ++ List.replicate (zml (P k) - (lg_sl (av.map (zv G))).length) Slot.unset).toArray = ls at hlv ⊢
      rw [zv_args] at hlv
      exact zfp_sound hSt5 hSt6 hCL hWk B.exec B.bytes hml B.returns B.notSynchronized hl hown (fun w hw => hts w (List.mem_cons_of_mem _ hw)) hT ⟨by have := hr.2.1; have := hr.1; omega, fun q hq => hr.2.2.1 q hq⟩ hnm htab hH hB hC _ _ _ _ _ hW0 s.heap [] ls hr (fun _ h => nomatch h) hlv
    cases hhh : zhh (P k) with
    | none =>
      refine vx_ofW (cc := zcc (P k)) (maxL := zml (P k)) (ret := zrt (P k)) hpn (ws' := zGW) (zws_none hhh) ?_
      intro p e s m args below meth c s₁ B hml hno hPc
      refine go p e s m args below meth c s₁ B hml ?_ hPc
      rw [hhh]
      cases hc : c.exceptionTable.toList with
      | nil => rfl
      | cons x r => exact (hno x (by rw [hc]; exact List.mem_cons_self)).elim
    | some hh =>
      have hwsE : zws (P k) = Cond.codeWith (zy (P k)) (zcc (P k)) (zml (P k)) (zrt (P k)) hh :: zGW := by unfold zws zcd; rw [hhh]
      refine vx_ofWH (cc := zcc (P k)) (maxL := zml (P k)) (ret := zrt (P k)) (hh := hh) hpn (ws' := zGW) hwsE ?_
      intro p e s m args below meth c s₁ B hml hPc
      refine go p e s m args below meth c s₁ B hml ?_ hPc
      rw [hhh]
      have hts := atoms_spec (ws := zws (P k)) B.pre
      exact vx_table (x := zy (P k)) B (hts _ (by rw [hwsE]; exact List.mem_cons_self))
