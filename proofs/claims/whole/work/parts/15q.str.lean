/-! STRINGS: length and charAt of the words -/
set_option maxRecDepth 10000 in
theorem zsw19 : (Jvm.Cond.initialized "java/lang/String") ∈ zGW := zw (zt1 (i := 19) rfl) rfl
set_option maxRecDepth 10000 in
theorem zsw20 : (Jvm.Cond.initialized "java/lang/StringLatin1") ∈ zGW := zw (zt1 (i := 20) rfl) rfl
set_option maxRecDepth 10000 in
theorem zsw21 : (Jvm.Cond.initialized "jdk/internal/util/Preconditions") ∈ zGW := zw (zt1 (i := 21) rfl) rfl
set_option maxRecDepth 10000 in
theorem zsw618 : (Jvm.Cond.methodLink "RightTurns$Reader" (165 : Nat) ({ cls := "java/lang/String", name := "length", desc := "()I" } : Jvm.MethodName)) ∈ zGW := zw (zt3 (i := 138) rfl) rfl
set_option maxRecDepth 10000 in
theorem zsw619 : (Jvm.Cond.instanceMethod ({ cls := "java/lang/String", name := "length", desc := "()I" } : Jvm.MethodName)) ∈ zGW := zw (zt3 (i := 139) rfl) rfl
set_option maxRecDepth 10000 in
theorem zsw620 : (Jvm.Cond.selects "java/lang/String" ({ cls := "java/lang/String", name := "length", desc := "()I" } : Jvm.MethodName) ({ cls := "java/lang/String", name := "length", desc := "()I" } : Jvm.MethodName)) ∈ zGW := zw (zt3 (i := 140) rfl) rfl
set_option maxRecDepth 10000 in
theorem zsw621 : (Jvm.Cond.code ({ cls := "java/lang/String", name := "length", desc := "()I" } : Jvm.MethodName) prog_25_method_54_code (1 : Nat) (Option.some Jvm.ClassFile.FieldType.int)) ∈ zGW := zw (zt3 (i := 141) rfl) rfl
set_option maxRecDepth 10000 in
theorem zsw622 : (Jvm.Cond.methodLink "java/lang/String" (335 : Nat) ({ cls := "java/lang/String", name := "coder", desc := "()B" } : Jvm.MethodName)) ∈ zGW := zw (zt3 (i := 142) rfl) rfl
set_option maxRecDepth 10000 in
theorem zsw623 : (Jvm.Cond.instanceMethod ({ cls := "java/lang/String", name := "coder", desc := "()B" } : Jvm.MethodName)) ∈ zGW := zw (zt3 (i := 143) rfl) rfl
set_option maxRecDepth 10000 in
theorem zsw624 : (Jvm.Cond.selects "java/lang/String" ({ cls := "java/lang/String", name := "coder", desc := "()B" } : Jvm.MethodName) ({ cls := "java/lang/String", name := "coder", desc := "()B" } : Jvm.MethodName)) ∈ zGW := zw (zt3 (i := 144) rfl) rfl
set_option maxRecDepth 10000 in
theorem zsw625 : (Jvm.Cond.code ({ cls := "java/lang/String", name := "coder", desc := "()B" } : Jvm.MethodName) prog_25_method_152_code (1 : Nat) (Option.some Jvm.ClassFile.FieldType.byte)) ∈ zGW := zw (zt3 (i := 145) rfl) rfl
set_option maxRecDepth 10000 in
theorem zsw626 : (Jvm.Cond.fieldLink "java/lang/String" (38 : Nat) "java/lang/String" "COMPACT_STRINGS" "Z") ∈ zGW := zw (zt3 (i := 146) rfl) rfl
set_option maxRecDepth 10000 in
theorem zsw628 : (Jvm.Cond.methodLink "RightTurns$Reader" (170 : Nat) ({ cls := "java/lang/String", name := "charAt", desc := "(I)C" } : Jvm.MethodName)) ∈ zGW := zw (zt3 (i := 148) rfl) rfl
set_option maxRecDepth 10000 in
theorem zsw629 : (Jvm.Cond.instanceMethod ({ cls := "java/lang/String", name := "charAt", desc := "(I)C" } : Jvm.MethodName)) ∈ zGW := zw (zt3 (i := 149) rfl) rfl
set_option maxRecDepth 10000 in
theorem zsw630 : (Jvm.Cond.selects "java/lang/String" ({ cls := "java/lang/String", name := "charAt", desc := "(I)C" } : Jvm.MethodName) ({ cls := "java/lang/String", name := "charAt", desc := "(I)C" } : Jvm.MethodName)) ∈ zGW := zw (zt3 (i := 150) rfl) rfl
set_option maxRecDepth 10000 in
theorem zsw631 : (Jvm.Cond.code ({ cls := "java/lang/String", name := "charAt", desc := "(I)C" } : Jvm.MethodName) prog_25_method_56_code (2 : Nat) (Option.some Jvm.ClassFile.FieldType.char)) ∈ zGW := zw (zt3 (i := 151) rfl) rfl
set_option maxRecDepth 10000 in
theorem zsw632 : (Jvm.Cond.methodLink "java/lang/String" (492 : Nat) ({ cls := "java/lang/String", name := "isLatin1", desc := "()Z" } : Jvm.MethodName)) ∈ zGW := zw (zt3 (i := 152) rfl) rfl
set_option maxRecDepth 10000 in
theorem zsw633 : (Jvm.Cond.instanceMethod ({ cls := "java/lang/String", name := "isLatin1", desc := "()Z" } : Jvm.MethodName)) ∈ zGW := zw (zt3 (i := 153) rfl) rfl
set_option maxRecDepth 10000 in
theorem zsw634 : (Jvm.Cond.selects "java/lang/String" ({ cls := "java/lang/String", name := "isLatin1", desc := "()Z" } : Jvm.MethodName) ({ cls := "java/lang/String", name := "isLatin1", desc := "()Z" } : Jvm.MethodName)) ∈ zGW := zw (zt3 (i := 154) rfl) rfl
set_option maxRecDepth 10000 in
theorem zsw635 : (Jvm.Cond.code ({ cls := "java/lang/String", name := "isLatin1", desc := "()Z" } : Jvm.MethodName) prog_25_method_154_code (1 : Nat) (Option.some Jvm.ClassFile.FieldType.boolean)) ∈ zGW := zw (zt3 (i := 155) rfl) rfl
set_option maxRecDepth 10000 in
theorem zsw636 : (Jvm.Cond.methodLink "java/lang/String" (495 : Nat) ({ cls := "java/lang/StringLatin1", name := "charAt", desc := "([BI)C" } : Jvm.MethodName)) ∈ zGW := zw (zt3 (i := 156) rfl) rfl
set_option maxRecDepth 10000 in
theorem zsw637 : (Jvm.Cond.static ({ cls := "java/lang/StringLatin1", name := "charAt", desc := "([BI)C" } : Jvm.MethodName)) ∈ zGW := zw (zt3 (i := 157) rfl) rfl
set_option maxRecDepth 10000 in
theorem zsw638 : (Jvm.Cond.code ({ cls := "java/lang/StringLatin1", name := "charAt", desc := "([BI)C" } : Jvm.MethodName) prog_26_method_2_code (2 : Nat) (Option.some Jvm.ClassFile.FieldType.char)) ∈ zGW := zw (zt3 (i := 158) rfl) rfl
set_option maxRecDepth 10000 in
theorem zsw639 : (Jvm.Cond.methodLink "java/lang/StringLatin1" (9 : Nat) ({ cls := "java/lang/String", name := "checkIndex", desc := "(II)V" } : Jvm.MethodName)) ∈ zGW := zw (zt3 (i := 159) rfl) rfl
set_option maxRecDepth 10000 in
theorem zsw640 : (Jvm.Cond.static ({ cls := "java/lang/String", name := "checkIndex", desc := "(II)V" } : Jvm.MethodName)) ∈ zGW := zw (zt3 (i := 160) rfl) rfl
set_option maxRecDepth 10000 in
theorem zsw641 : (Jvm.Cond.code ({ cls := "java/lang/String", name := "checkIndex", desc := "(II)V" } : Jvm.MethodName) prog_25_method_155_code (2 : Nat) (Option.none : Option Jvm.ClassFile.FieldType)) ∈ zGW := zw (zt3 (i := 161) rfl) rfl
set_option maxRecDepth 10000 in
theorem zsw642 : (Jvm.Cond.fieldLink "java/lang/String" (1053 : Nat) "jdk/internal/util/Preconditions" "SIOOBE_FORMATTER" "Ljava/util/function/BiFunction;") ∈ zGW := zw (zt3 (i := 162) rfl) rfl
set_option maxRecDepth 10000 in
theorem zsw644 : (Jvm.Cond.methodLink "java/lang/String" (1059 : Nat) ({ cls := "jdk/internal/util/Preconditions", name := "checkIndex", desc := "(IILjava/util/function/BiFunction;)I" } : Jvm.MethodName)) ∈ zGW := zw (zt3 (i := 164) rfl) rfl
set_option maxRecDepth 10000 in
theorem zsw645 : (Jvm.Cond.static ({ cls := "jdk/internal/util/Preconditions", name := "checkIndex", desc := "(IILjava/util/function/BiFunction;)I" } : Jvm.MethodName)) ∈ zGW := zw (zt3 (i := 165) rfl) rfl
set_option maxRecDepth 10000 in
theorem zsw646 : (Jvm.Cond.code ({ cls := "jdk/internal/util/Preconditions", name := "checkIndex", desc := "(IILjava/util/function/BiFunction;)I" } : Jvm.MethodName) prog_34_method_11_code (3 : Nat) (Option.some Jvm.ClassFile.FieldType.int)) ∈ zGW := zw (zt3 (i := 166) rfl) rfl
set_option maxRecDepth 10000 in
theorem zsw2010 : (Jvm.Cond.fieldLink "java/lang/String" (9 : Nat) "java/lang/String" "value" "[B") ∈ zGW := zw (zt9 (i := 90) rfl) rfl
set_option maxRecDepth 10000 in
theorem zsw2011 : (Jvm.Cond.fieldLink "java/lang/String" (15 : Nat) "java/lang/String" "coder" "B") ∈ zGW := zw (zt9 (i := 91) rfl) rfl
theorem zd_pre_0 : decode prog_34_method_11_code 0 = .ok (.iload_n 0, 1) := by decide +kernel
theorem zd_pre_1 : decode prog_34_method_11_code 1 = .ok (.ifCond .lt 8, 3) := by decide +kernel
theorem zd_pre_4 : decode prog_34_method_11_code 4 = .ok (.iload_n 0, 1) := by decide +kernel
theorem zd_pre_5 : decode prog_34_method_11_code 5 = .ok (.iload_n 1, 1) := by decide +kernel
theorem zd_pre_6 : decode prog_34_method_11_code 6 = .ok (.if_icmp .lt 10, 3) := by decide +kernel
theorem zd_pre_16 : decode prog_34_method_11_code 16 = .ok (.iload_n 0, 1) := by decide +kernel
theorem zd_pre_17 : decode prog_34_method_11_code 17 = .ok (.ireturn, 1) := by decide +kernel
theorem zd_chk_0 : decode prog_25_method_155_code 0 = .ok (.iload_n 0, 1) := by decide +kernel
theorem zd_chk_1 : decode prog_25_method_155_code 1 = .ok (.iload_n 1, 1) := by decide +kernel
theorem zd_chk_2 : decode prog_25_method_155_code 2 = .ok (.getstatic 1053, 3) := by decide +kernel
theorem zd_chk_5 : decode prog_25_method_155_code 5 = .ok (.invokestatic 1059, 3) := by decide +kernel
theorem zd_chk_8 : decode prog_25_method_155_code 8 = .ok (.pop, 1) := by decide +kernel
theorem zd_chk_9 : decode prog_25_method_155_code 9 = .ok (.return_, 1) := by decide +kernel
theorem zd_lat_0 : decode prog_26_method_2_code 0 = .ok (.iload_n 1, 1) := by decide +kernel
theorem zd_lat_1 : decode prog_26_method_2_code 1 = .ok (.aload_n 0, 1) := by decide +kernel
theorem zd_lat_2 : decode prog_26_method_2_code 2 = .ok (.arraylength, 1) := by decide +kernel
theorem zd_lat_3 : decode prog_26_method_2_code 3 = .ok (.invokestatic 9, 3) := by decide +kernel
theorem zd_lat_6 : decode prog_26_method_2_code 6 = .ok (.aload_n 0, 1) := by decide +kernel
theorem zd_lat_7 : decode prog_26_method_2_code 7 = .ok (.iload_n 1, 1) := by decide +kernel
theorem zd_lat_8 : decode prog_26_method_2_code 8 = .ok (.baload, 1) := by decide +kernel
theorem zd_lat_9 : decode prog_26_method_2_code 9 = .ok (.sipush 255, 3) := by decide +kernel
theorem zd_lat_12 : decode prog_26_method_2_code 12 = .ok (.iand, 1) := by decide +kernel
theorem zd_lat_13 : decode prog_26_method_2_code 13 = .ok (.i2c, 1) := by decide +kernel
theorem zd_lat_14 : decode prog_26_method_2_code 14 = .ok (.ireturn, 1) := by decide +kernel
theorem zd_isl_0 : decode prog_25_method_154_code 0 = .ok (.getstatic 38, 3) := by decide +kernel
theorem zd_isl_3 : decode prog_25_method_154_code 3 = .ok (.ifCond .eq 14, 3) := by decide +kernel
theorem zd_isl_6 : decode prog_25_method_154_code 6 = .ok (.aload_n 0, 1) := by decide +kernel
theorem zd_isl_7 : decode prog_25_method_154_code 7 = .ok (.getfield 15, 3) := by decide +kernel
theorem zd_isl_10 : decode prog_25_method_154_code 10 = .ok (.ifCond .ne 7, 3) := by decide +kernel
theorem zd_isl_13 : decode prog_25_method_154_code 13 = .ok (.iconst 1, 1) := by decide +kernel
theorem zd_isl_14 : decode prog_25_method_154_code 14 = .ok (.goto 4, 3) := by decide +kernel
theorem zd_isl_18 : decode prog_25_method_154_code 18 = .ok (.ireturn, 1) := by decide +kernel
theorem zd_cod_0 : decode prog_25_method_152_code 0 = .ok (.getstatic 38, 3) := by decide +kernel
theorem zd_cod_3 : decode prog_25_method_152_code 3 = .ok (.ifCond .eq 10, 3) := by decide +kernel
theorem zd_cod_6 : decode prog_25_method_152_code 6 = .ok (.aload_n 0, 1) := by decide +kernel
theorem zd_cod_7 : decode prog_25_method_152_code 7 = .ok (.getfield 15, 3) := by decide +kernel
theorem zd_cod_10 : decode prog_25_method_152_code 10 = .ok (.goto 4, 3) := by decide +kernel
theorem zd_cod_14 : decode prog_25_method_152_code 14 = .ok (.ireturn, 1) := by decide +kernel
theorem zd_cha_0 : decode prog_25_method_56_code 0 = .ok (.aload_n 0, 1) := by decide +kernel
theorem zd_cha_1 : decode prog_25_method_56_code 1 = .ok (.invokevirtual 492, 3) := by decide +kernel
theorem zd_cha_4 : decode prog_25_method_56_code 4 = .ok (.ifCond .eq 12, 3) := by decide +kernel
theorem zd_cha_7 : decode prog_25_method_56_code 7 = .ok (.aload_n 0, 1) := by decide +kernel
theorem zd_cha_8 : decode prog_25_method_56_code 8 = .ok (.getfield 9, 3) := by decide +kernel
theorem zd_cha_11 : decode prog_25_method_56_code 11 = .ok (.iload_n 1, 1) := by decide +kernel
theorem zd_cha_12 : decode prog_25_method_56_code 12 = .ok (.invokestatic 495, 3) := by decide +kernel
theorem zd_cha_15 : decode prog_25_method_56_code 15 = .ok (.ireturn, 1) := by decide +kernel
theorem zd_len_0 : decode prog_25_method_54_code 0 = .ok (.aload_n 0, 1) := by decide +kernel
theorem zd_len_1 : decode prog_25_method_54_code 1 = .ok (.getfield 9, 3) := by decide +kernel
theorem zd_len_4 : decode prog_25_method_54_code 4 = .ok (.arraylength, 1) := by decide +kernel
theorem zd_len_5 : decode prog_25_method_54_code 5 = .ok (.aload_n 0, 1) := by decide +kernel
theorem zd_len_6 : decode prog_25_method_54_code 6 = .ok (.invokevirtual 335, 3) := by decide +kernel
theorem zd_len_9 : decode prog_25_method_54_code 9 = .ok (.ishr, 1) := by decide +kernel
theorem zd_len_10 : decode prog_25_method_54_code 10 = .ok (.ireturn, 1) := by decide +kernel
def ys_pre : MethodName := { cls := "jdk/internal/util/Preconditions", name := "checkIndex", desc := "(IILjava/util/function/BiFunction;)I" }
def ys_chk : MethodName := { cls := "java/lang/String", name := "checkIndex", desc := "(II)V" }
def ys_lat : MethodName := { cls := "java/lang/StringLatin1", name := "charAt", desc := "([BI)C" }
def ys_isl : MethodName := { cls := "java/lang/String", name := "isLatin1", desc := "()Z" }
def ys_cod : MethodName := { cls := "java/lang/String", name := "coder", desc := "()B" }
def ys_cha : MethodName := { cls := "java/lang/String", name := "charAt", desc := "(I)C" }
def ys_len : MethodName := { cls := "java/lang/String", name := "length", desc := "()I" }
def zPs (G : zG) (av : List Value) : Array Value → State → Prop := fun v U => v = av.toArray ∧ zT G U ∧ (zb0 G ≤ U.heap.size ∧ ∀ q, q < zb0 G → U.heap[q]? = (zH0 G)[q]?)
def zQs (x : Option Value) : Array Value → State → Outcome → State → Prop := fun _ s o t => o = .returned x ∧ t.heap = s.heap
theorem zPs_blind (G : zG) (av : List Value) : FrameBlind (zPs G av) := fun _ U g mk ⟨h1, h2, h3⟩ => ⟨h1, h2.warm (s := U) (U := U.calling g mk _) (State.WarmedH.refl U), h3⟩
/-- the words in a state -/
theorem zStr_at {G : zG} {s : State} (hT : zT G s) (hs0 : zb0 G ≤ s.heap.size ∧ ∀ q, q < zb0 G → s.heap[q]? = (zH0 G)[q]?) : vk_S 7 zLenW zBytW (fun i => zet G (1 + i)) (fun i => zet G (8 + i)) (fun q => zb0 G ≤ q) s s.heap ∧ va_Z "java/lang/String" "COMPACT_STRINGS" "Z" (.int 1) (fun q => zb0 G ≤ q) s s.heap ∧ va_Zq "jdk/internal/util/Preconditions" "SIOOBE_FORMATTER" "Ljava/util/function/BiFunction;" (fun q => zb0 G ≤ q) s s.heap := by
  obtain ⟨h1, h2, h3⟩ := hT.2.2.2.2.2.2.2.2.2
  have hq : ∀ a : Nat, a < (zH0 G).size → ¬ zb0 G ≤ a → s.heap[a]? = (zH0 G)[a]? := fun a _ h => hs0.2 a (by omega)
  exact ⟨h1.kept hq, h2.kept hq, h3.kept hq⟩
theorem zG1 {w : Cond} (h : w ∈ zGW) : GoodIn zGW [w] := zGW_good [w] (fun v hv => by rw [List.mem_singleton.mp hv]; exact h) _ (fun _ h => h)
section ZQ
variable {p : Program} {l : Launch} {e : Env} {R : Room} {s : State} {m : MethodId} {args : Array Value} {below : List Frame} {meth : Method} {c : Code} {H : Heap} {locs : List Loc} {cells slots : Nat} {Q : State → Prop} {pc : Nat} {ls : Array Slot} {st0 rest : List Value}
/-- behind a call that leaves the heap as it was -/
theorem zs_back {x : Option Value} {a : Array Value} (hr : va_Run p l e R s m args below meth c H locs cells slots 0 0 (F0 m pc ls st0) rest (zQs x a) (fun _ => False)) (kk : W p l e R s m args below meth c H locs cells slots Q (F0 m (pc + 3) ls (x.toList ++ rest))) : W p l e R s m args below meth c H locs cells slots Q (F0 m pc ls st0) := by
  intro T hT X
  obtain ⟨v, st₀, t, T', L, h0, X', hL, e1, e2, ⟨hv, hh⟩, st⟩ := hr T hT X
  cases hv
  have hL0 : L = [] := by
    cases L with
    | nil => rfl
    | cons q r => exact (hL q List.mem_cons_self).elim
  subst hL0
  rw [List.append_nil] at X'
  obtain ⟨t2, a1, b1⟩ := kk T' (by rw [e1, hh, h0]) X'
  exact ⟨t2, st t2 a1, b1⟩
end ZQ
theorem s_pre (l : Launch) (G : zG) (i n : Int32) (v : Value) (hv0 : v = .null ∨ ∃ t, v = .ref t) (h0 : ¬ i < 0) (h1 : i < n) : Met l ys_pre (Cond.code ys_pre prog_34_method_11_code 3 (some .int) :: zGW) ({ frames := 0, cells := 0, slots := 0, locals := 0 } : Room) (zPs G [.int i, .int n, v]) (zQs (some (.int i))) 0 0 (fun _ => False) := by
  have go : ∀ v : Value, v.category = 1 → (∃ av : List Value, av = [.int i, .int n, v]) → True := fun _ _ _ => trivial
  clear go
  rcases hv0 with rfl | ⟨t, rfl⟩
  · refine Met.ofW (cc := prog_34_method_11_code) (maxL := 3) (ret := (some .int)) (by decide) rfl ?_
    intro p e s m args below meth c s₁ B hml hv
    obtain ⟨rfl, hT, hs0⟩ := hv
    have hx := B.exec
    have hb := B.bytes
    have hr := B.returns
    have hts0 := atoms_spec (ws := (Cond.code ys_pre prog_34_method_11_code 3 (some .int) :: zGW)) B.pre
    have hts : ∀ w ∈ zGW, w.before [.int i, .int n, .null].toArray s = true := fun w hw => hts0 w (List.mem_cons_of_mem _ hw)
    have hown : s.vm.findClass "jdk/internal/util/Preconditions" = some m.cls := findClass_of_methodNamed B.named
    have hlocks := B.notSynchronized
    obtain ⟨hE, hZ, hF⟩ := zStr_at hT hs0
    have hS : va_S (fun q => zb0 G ≤ q) s.heap s.heap [] := va_S.rf
    have hl := lv_entry ([.int i, .int n, .null]) (n := 3) (Nat.le_of_ble_eq_true rfl)
    rw [lg_entry_eq]
    generalize (lg_sl ([.int i, .int n, .null]) ++ List.replicate (3 - (lg_sl ([.int i, .int n, .null])).length) Slot.unset).toArray = ls at hl ⊢
    have hl : lv_has ls 3 [(0, .int i), (1, .int n), (2, .null)] := hl
    refine lv_iload_n hx hb zd_pre_0 rfl (lv_at hl 0 rfl) ?_
    refine lv_if_lt hx hb zd_pre_1 (tgt := 9) rfl (fun z => absurd z h0) (fun _ => ?_)
    refine lv_iload_n hx hb zd_pre_4 rfl (lv_at hl 0 rfl) ?_
    refine lv_iload_n hx hb zd_pre_5 rfl (lv_at hl 1 rfl) ?_
    refine lv_icmp_lt hx hb zd_pre_6 (tgt := 16) rfl (fun _ => ?_) (fun z => absurd h1 z)
    refine lv_iload_n hx hb zd_pre_16 rfl (lv_at hl 0 rfl) ?_
    exact W.iret hx hb hr (fun t ht hW => ⟨rfl, ht⟩) (fun _ h => nomatch h) zd_pre_17 hlocks
  · refine Met.ofW (cc := prog_34_method_11_code) (maxL := 3) (ret := (some .int)) (by decide) rfl ?_
    intro p e s m args below meth c s₁ B hml hv
    obtain ⟨rfl, hT, hs0⟩ := hv
    have hx := B.exec
    have hb := B.bytes
    have hr := B.returns
    have hts0 := atoms_spec (ws := (Cond.code ys_pre prog_34_method_11_code 3 (some .int) :: zGW)) B.pre
    have hts : ∀ w ∈ zGW, w.before [.int i, .int n, .ref t].toArray s = true := fun w hw => hts0 w (List.mem_cons_of_mem _ hw)
    have hown : s.vm.findClass "jdk/internal/util/Preconditions" = some m.cls := findClass_of_methodNamed B.named
    have hlocks := B.notSynchronized
    obtain ⟨hE, hZ, hF⟩ := zStr_at hT hs0
    have hS : va_S (fun q => zb0 G ≤ q) s.heap s.heap [] := va_S.rf
    have hl := lv_entry ([.int i, .int n, .ref t]) (n := 3) (Nat.le_of_ble_eq_true rfl)
    rw [lg_entry_eq]
    generalize (lg_sl ([.int i, .int n, .ref t]) ++ List.replicate (3 - (lg_sl ([.int i, .int n, .ref t])).length) Slot.unset).toArray = ls at hl ⊢
    have hl : lv_has ls 3 [(0, .int i), (1, .int n), (2, .ref t)] := hl
    refine lv_iload_n hx hb zd_pre_0 rfl (lv_at hl 0 rfl) ?_
    refine lv_if_lt hx hb zd_pre_1 (tgt := 9) rfl (fun z => absurd z h0) (fun _ => ?_)
    refine lv_iload_n hx hb zd_pre_4 rfl (lv_at hl 0 rfl) ?_
    refine lv_iload_n hx hb zd_pre_5 rfl (lv_at hl 1 rfl) ?_
    refine lv_icmp_lt hx hb zd_pre_6 (tgt := 16) rfl (fun _ => ?_) (fun z => absurd h1 z)
    refine lv_iload_n hx hb zd_pre_16 rfl (lv_at hl 0 rfl) ?_
    exact W.iret hx hb hr (fun t2 ht hW => ⟨rfl, ht⟩) (fun _ h => nomatch h) zd_pre_17 hlocks
theorem s_chk (l : Launch) (G : zG) (i n : Int32) (h0 : ¬ i < 0) (h1 : i < n) : Met l ys_chk (Cond.code ys_chk prog_25_method_155_code 2 none :: zGW) ({ frames := 1, cells := 0, slots := 0, locals := 22 } : Room) (zPs G [.int i, .int n]) (zQs none) 0 0 (fun _ => False) := by
  refine Met.ofW (cc := prog_25_method_155_code) (maxL := 2) (ret := none) (by decide) rfl ?_
  intro p e s m args below meth c s₁ B hml hv
  obtain ⟨rfl, hT, hs0⟩ := hv
  have hx := B.exec
  have hb := B.bytes
  have hr := B.returns
  have hts0 := atoms_spec (ws := (Cond.code ys_chk prog_25_method_155_code 2 none :: zGW)) B.pre
  have hts : ∀ w ∈ zGW, w.before [.int i, .int n].toArray s = true := fun w hw => hts0 w (List.mem_cons_of_mem _ hw)
  have hown : s.vm.findClass "java/lang/String" = some m.cls := findClass_of_methodNamed B.named
  have hlocks := B.notSynchronized
  obtain ⟨hE, hZ, hF⟩ := zStr_at hT hs0
  have hS : va_S (fun q => zb0 G ≤ q) s.heap s.heap [] := va_S.rf
  have hl := lv_entry ([.int i, .int n]) (n := 2) (Nat.le_of_ble_eq_true rfl)
  rw [lg_entry_eq]
  generalize (lg_sl ([.int i, .int n]) ++ List.replicate (2 - (lg_sl ([.int i, .int n])).length) Slot.unset).toArray = ls at hl ⊢
  have hl : lv_has ls 2 [(0, .int i), (1, .int n)] := hl
  refine lv_iload_n hx hb zd_chk_0 rfl (lv_at hl 0 rfl) ?_
  refine lv_iload_n hx hb zd_chk_1 rfl (lv_at hl 1 rfl) ?_
  have key : ∀ v : Value, v.category = 1 → (v = .null ∨ ∃ t, v = .ref t) → W p l e (headSpec (Cond.code ys_chk prog_25_method_155_code 2 none :: zGW) ({ frames := 1, cells := 0, slots := 0, locals := 22 } : Room)).room s m [.int i, .int n].toArray below meth c s.heap [] 0 0 (MQ below (zQs none) [.int i, .int n].toArray s 0 0 (fun _ => False)) (F0 m 5 ls [v, .int n, .int i]) := by
    intro v hcv hv
    have hM := s_pre l G i n v hv h0 h1
    refine zs_back (x := (some (.int i))) (va_runS (own := "java/lang/String") (y := ys_pre) (index := 1059) (bytes := prog_34_method_11_code) (maxL := 3) (ret := (some .int)) (n := 3) (rest := []) (As := [.int i, .int n, v]) (Ts := zGW) ⟨hx, hb, hml, hown, hts⟩ hM
      ⟨callB_of 3 hts (fun w hw => by rcases List.mem_cons.mp hw with rfl | hw; exact zG1 zsw646 _ (List.mem_singleton.mpr rfl); exact zG1 hw _ (List.mem_singleton.mpr rfl)) rfl rfl rfl (hts _ zsw21) (hts _ zsw644) ⟨by decide, by decide, by decide⟩ ⟨Nat.le_of_ble_eq_true rfl, Nat.le_of_ble_eq_true rfl⟩, hts _ zsw645⟩ ⟨zPs_blind G _, fun U hU hW => ⟨rfl, hT.warm hW, by rw [hU]; exact hs0⟩⟩ rfl rfl hl.1 rfl (Nat.le_of_ble_eq_true rfl) zd_chk_5 ⟨Nat.le_of_ble_eq_true rfl, Nat.le_of_ble_eq_true rfl⟩) ?_
    refine lv_pop hx hb zd_chk_8 rfl ?_
    exact W.vret hx hb hr (fun t ht hW => ⟨rfl, ht⟩) (fun _ h => nomatch h) zd_chk_9 hlocks
  rcases hF with hF | ⟨t, hF⟩
  · refine va_gets hx hb hF hS hown (hts _ zsw642) (fun _ h => h) zd_chk_2 ?_
    exact key .null rfl (.inl rfl)
  · refine va_gets hx hb hF hS hown (hts _ zsw642) (fun _ h => h) zd_chk_2 ?_
    exact key (.ref t) rfl (.inr ⟨t, rfl⟩)
theorem s_isl (l : Launch) (G : zG) (j : Nat) (hj : j < 7) : Met l ys_isl (Cond.code ys_isl prog_25_method_154_code 1 (some .boolean) :: zGW) ({ frames := 0, cells := 0, slots := 0, locals := 0 } : Room) (zPs G [.ref (zet G (1 + j))]) (zQs (some (.int 1))) 0 0 (fun _ => False) := by
  refine Met.ofW (cc := prog_25_method_154_code) (maxL := 1) (ret := (some .boolean)) (by decide) rfl ?_
  intro p e s m args below meth c s₁ B hml hv
  obtain ⟨rfl, hT, hs0⟩ := hv
  have hx := B.exec
  have hb := B.bytes
  have hr := B.returns
  have hts0 := atoms_spec (ws := (Cond.code ys_isl prog_25_method_154_code 1 (some .boolean) :: zGW)) B.pre
  have hts : ∀ w ∈ zGW, w.before [.ref (zet G (1 + j))].toArray s = true := fun w hw => hts0 w (List.mem_cons_of_mem _ hw)
  have hown : s.vm.findClass "java/lang/String" = some m.cls := findClass_of_methodNamed B.named
  have hlocks := B.notSynchronized
  obtain ⟨hE, hZ, hF⟩ := zStr_at hT hs0
  have hS : va_S (fun q => zb0 G ≤ q) s.heap s.heap [] := va_S.rf
  have hl := lv_entry ([.ref (zet G (1 + j))]) (n := 1) (Nat.le_of_ble_eq_true rfl)
  rw [lg_entry_eq]
  generalize (lg_sl ([.ref (zet G (1 + j))]) ++ List.replicate (1 - (lg_sl ([.ref (zet G (1 + j))])).length) Slot.unset).toArray = ls at hl ⊢
  have hl : lv_has ls 1 [(0, .ref (zet G (1 + j)))] := hl
  refine va_gets hx hb hZ hS hown (hts _ zsw626) (fun _ h => h) zd_isl_0 ?_
  refine lv_if_eq hx hb zd_isl_3 (tgt := 17) rfl (fun z => absurd z (by decide)) (fun _ => ?_)
  refine lv_aload_n hx hb zd_isl_6 rfl (lv_at hl 0 rfl) ?_
  refine vk_getf hx hb (hE.1 j hj).2.1 hS hown (hts _ zsw2011) (fun _ h => h) zd_isl_7 ?_
  refine lv_if_ne hx hb zd_isl_10 (tgt := 17) rfl (fun z => absurd rfl z) (fun _ => ?_)
  refine lv_iconst hx hb zd_isl_13 rfl ?_
  refine lv_goto hx hb zd_isl_14 (tgt := 18) rfl ?_
  exact W.zret (ty := .boolean) hx hb hr rfl (fun t ht hW => ⟨rfl, ht⟩) (fun _ h => nomatch h) zd_isl_18 hlocks
theorem s_cod (l : Launch) (G : zG) (j : Nat) (hj : j < 7) : Met l ys_cod (Cond.code ys_cod prog_25_method_152_code 1 (some .byte) :: zGW) ({ frames := 0, cells := 0, slots := 0, locals := 0 } : Room) (zPs G [.ref (zet G (1 + j))]) (zQs (some (.int 0))) 0 0 (fun _ => False) := by
  refine Met.ofW (cc := prog_25_method_152_code) (maxL := 1) (ret := (some .byte)) (by decide) rfl ?_
  intro p e s m args below meth c s₁ B hml hv
  obtain ⟨rfl, hT, hs0⟩ := hv
  have hx := B.exec
  have hb := B.bytes
  have hr := B.returns
  have hts0 := atoms_spec (ws := (Cond.code ys_cod prog_25_method_152_code 1 (some .byte) :: zGW)) B.pre
  have hts : ∀ w ∈ zGW, w.before [.ref (zet G (1 + j))].toArray s = true := fun w hw => hts0 w (List.mem_cons_of_mem _ hw)
  have hown : s.vm.findClass "java/lang/String" = some m.cls := findClass_of_methodNamed B.named
  have hlocks := B.notSynchronized
  obtain ⟨hE, hZ, hF⟩ := zStr_at hT hs0
  have hS : va_S (fun q => zb0 G ≤ q) s.heap s.heap [] := va_S.rf
  have hl := lv_entry ([.ref (zet G (1 + j))]) (n := 1) (Nat.le_of_ble_eq_true rfl)
  rw [lg_entry_eq]
  generalize (lg_sl ([.ref (zet G (1 + j))]) ++ List.replicate (1 - (lg_sl ([.ref (zet G (1 + j))])).length) Slot.unset).toArray = ls at hl ⊢
  have hl : lv_has ls 1 [(0, .ref (zet G (1 + j)))] := hl
  refine va_gets hx hb hZ hS hown (hts _ zsw626) (fun _ h => h) zd_cod_0 ?_
  refine lv_if_eq hx hb zd_cod_3 (tgt := 13) rfl (fun z => absurd z (by decide)) (fun _ => ?_)
  refine lv_aload_n hx hb zd_cod_6 rfl (lv_at hl 0 rfl) ?_
  refine vk_getf hx hb (hE.1 j hj).2.1 hS hown (hts _ zsw2011) (fun _ h => h) zd_cod_7 ?_
  refine lv_goto hx hb zd_cod_10 (tgt := 14) rfl ?_
  exact W.zret (ty := .byte) hx hb hr rfl (fun t ht hW => ⟨rfl, ht⟩) (fun _ h => nomatch h) zd_cod_14 hlocks
theorem s_fact : ∀ j, j < 7 → zLenW.getD j 0 = zsl (1 + j) ∧ zLenW.getD j 0 ≤ 6 ∧ ∀ k, k < zLenW.getD j 0 → ((((zBytW.getD j []).getD k 0) &&& 255).toUInt32 % 65536).toInt32 = zsc (1 + j) k ∧ narrow .char (.int (zsc (1 + j) k)) = .int (zsc (1 + j) k) := by decide +kernel
theorem s_lt {i : Int32} {n : Nat} (hn : n ≤ 6) (h0 : ¬ i < 0) (h : i.toNatClampNeg < n) : i < Int32.ofNat n := by
  have h1 : (0 : Int) ≤ i.toInt := by
    have := Int32.not_lt.mp h0
    simpa using Int32.le_iff_toInt_le.mp this
  have h2 : i.toInt.toNat < n := h
  rw [Int32.lt_iff_toInt_lt, Int32.toInt_ofNat_of_lt (by omega)]
  omega
theorem s_lat (l : Launch) (G : zG) (j : Nat) (i : Int32) (hj : j < 7) (hi : vp_in i (zsl (1 + j))) : Met l ys_lat (Cond.code ys_lat prog_26_method_2_code 2 (some .char) :: zGW) ({ frames := 2, cells := 0, slots := 0, locals := 43 } : Room) (zPs G [.ref (zet G (8 + j)), .int i]) (zQs (some (.int (zsc (1 + j) i.toNatClampNeg)))) 0 0 (fun _ => False) := by
  obtain ⟨f1, f2, f3⟩ := s_fact j hj
  have hi2 : vp_in i (zLenW.getD j 0) := by rw [f1]; exact hi
  have hlt : i.toNatClampNeg < zLenW.getD j 0 := Nat.not_le.mp fun q => hi2 (Or.inr q)
  have h0 : ¬ i < 0 := fun q => hi2 (Or.inl q)
  obtain ⟨g1, g2⟩ := f3 _ hlt
  refine Met.ofW (cc := prog_26_method_2_code) (maxL := 2) (ret := (some .char)) (by decide) rfl ?_
  intro p e s m args below meth c s₁ B hml hv
  obtain ⟨rfl, hT, hs0⟩ := hv
  have hx := B.exec
  have hb := B.bytes
  have hr := B.returns
  have hts0 := atoms_spec (ws := (Cond.code ys_lat prog_26_method_2_code 2 (some .char) :: zGW)) B.pre
  have hts : ∀ w ∈ zGW, w.before [.ref (zet G (8 + j)), .int i].toArray s = true := fun w hw => hts0 w (List.mem_cons_of_mem _ hw)
  have hown : s.vm.findClass "java/lang/StringLatin1" = some m.cls := findClass_of_methodNamed B.named
  have hlocks := B.notSynchronized
  obtain ⟨hE, hZ, hF⟩ := zStr_at hT hs0
  have hS : va_S (fun q => zb0 G ≤ q) s.heap s.heap [] := va_S.rf
  have hl := lv_entry ([.ref (zet G (8 + j)), .int i]) (n := 2) (Nat.le_of_ble_eq_true rfl)
  rw [lg_entry_eq]
  generalize (lg_sl ([.ref (zet G (8 + j)), .int i]) ++ List.replicate (2 - (lg_sl ([.ref (zet G (8 + j)), .int i])).length) Slot.unset).toArray = ls at hl ⊢
  have hl : lv_has ls 2 [(0, .ref (zet G (8 + j))), (1, .int i)] := hl
  have hTb := (hE.1 j hj).2.2.2
  have h1 : i < Int32.ofNat (zLenW.getD j 0) := s_lt f2 h0 hlt
  have hM := s_chk l G i (Int32.ofNat (zLenW.getD j 0)) h0 h1
  refine lv_iload_n hx hb zd_lat_0 rfl (lv_at hl 1 rfl) ?_
  refine lv_aload_n hx hb zd_lat_1 rfl (lv_at hl 0 rfl) ?_
  refine va_tlen hx hb hTb hS rfl zd_lat_2 ?_
  refine zs_back (x := none) (va_runS (own := "java/lang/StringLatin1") (y := ys_chk) (index := 9) (bytes := prog_25_method_155_code) (maxL := 2) (ret := none) (n := 2) (rest := []) (As := [.int i, .int (Int32.ofNat (zLenW.getD j 0))]) (Ts := zGW) ⟨hx, hb, hml, hown, hts⟩ hM
    ⟨callB_of 2 hts (fun w hw => by rcases List.mem_cons.mp hw with rfl | hw; exact zG1 zsw641 _ (List.mem_singleton.mpr rfl); exact zG1 hw _ (List.mem_singleton.mpr rfl)) rfl rfl rfl (hts _ zsw19) (hts _ zsw639) ⟨by decide, by decide, by decide⟩ ⟨Nat.le_of_ble_eq_true rfl, Nat.le_of_ble_eq_true rfl⟩, hts _ zsw640⟩ ⟨zPs_blind G _, fun U hU hW => ⟨rfl, hT.warm hW, by rw [hU]; exact hs0⟩⟩ rfl rfl hl.1 rfl (Nat.le_of_ble_eq_true rfl) zd_lat_3 ⟨Nat.le_of_ble_eq_true rfl, Nat.le_of_ble_eq_true rfl⟩) ?_
  refine lv_aload_n hx hb zd_lat_6 rfl (lv_at hl 0 rfl) ?_
  refine lv_iload_n hx hb zd_lat_7 rfl (lv_at hl 1 rfl) ?_
  refine va_tb hx hb hTb hS hi2 rfl zd_lat_8 ?_
  refine lv_sipush hx hb zd_lat_9 rfl ?_
  refine lv_iand hx hb zd_lat_12 ?_
  refine lv_i2c hx hb zd_lat_13 g1 ?_
  exact W.zret (ty := .char) hx hb hr g2 (fun t ht hW => ⟨rfl, ht⟩) (fun _ h => nomatch h) zd_lat_14 hlocks
theorem s_cha (l : Launch) (G : zG) (j : Nat) (i : Int32) (hj : j < 7) (hi : vp_in i (zsl (1 + j))) : Met l ys_cha (Cond.code ys_cha prog_25_method_56_code 2 (some .char) :: zGW) ({ frames := 3, cells := 0, slots := 0, locals := 64 } : Room) (zPs G [.ref (zet G (1 + j)), .int i]) (zQs (some (.int (zsc (1 + j) i.toNatClampNeg)))) 0 0 (fun _ => False) := by
  obtain ⟨f1, f2, f3⟩ := s_fact j hj
  have hlt : i.toNatClampNeg < zLenW.getD j 0 := by rw [f1]; exact Nat.not_le.mp fun q => hi (Or.inr q)
  obtain ⟨g1, g2⟩ := f3 _ hlt
  refine Met.ofW (cc := prog_25_method_56_code) (maxL := 2) (ret := (some .char)) (by decide) rfl ?_
  intro p e s m args below meth c s₁ B hml hv
  obtain ⟨rfl, hT, hs0⟩ := hv
  have hx := B.exec
  have hb := B.bytes
  have hr := B.returns
  have hts0 := atoms_spec (ws := (Cond.code ys_cha prog_25_method_56_code 2 (some .char) :: zGW)) B.pre
  have hts : ∀ w ∈ zGW, w.before [.ref (zet G (1 + j)), .int i].toArray s = true := fun w hw => hts0 w (List.mem_cons_of_mem _ hw)
  have hown : s.vm.findClass "java/lang/String" = some m.cls := findClass_of_methodNamed B.named
  have hlocks := B.notSynchronized
  obtain ⟨hE, hZ, hF⟩ := zStr_at hT hs0
  have hS : va_S (fun q => zb0 G ≤ q) s.heap s.heap [] := va_S.rf
  have hl := lv_entry ([.ref (zet G (1 + j)), .int i]) (n := 2) (Nat.le_of_ble_eq_true rfl)
  rw [lg_entry_eq]
  generalize (lg_sl ([.ref (zet G (1 + j)), .int i]) ++ List.replicate (2 - (lg_sl ([.ref (zet G (1 + j)), .int i])).length) Slot.unset).toArray = ls at hl ⊢
  have hl : lv_has ls 2 [(0, .ref (zet G (1 + j))), (1, .int i)] := hl
  have hO := (hE.1 j hj).2.2.1
  have hTb := (hE.1 j hj).2.2.2
  refine lv_aload_n hx hb zd_cha_0 rfl (lv_at hl 0 rfl) ?_
  have hM := s_isl l G j hj
  refine zs_back (x := (some (.int 1))) (va_runV (own := "java/lang/String") (C := "java/lang/String") (y := ys_isl) (index := 492) (bytes := prog_25_method_154_code) (maxL := 1) (ret := (some .boolean)) (n := 0) (b := zet G (1 + j)) (rest := []) (As := []) (Ts := zGW) ⟨hx, hb, hml, hown, hts⟩ hM
    ⟨callB_of 0 hts (fun w hw => by rcases List.mem_cons.mp hw with rfl | hw; exact zG1 zsw635 _ (List.mem_singleton.mpr rfl); exact zG1 hw _ (List.mem_singleton.mpr rfl)) rfl rfl rfl (hts _ zsw19) (hts _ zsw632) ⟨by decide, by decide, by decide⟩ ⟨Nat.le_of_ble_eq_true rfl, Nat.le_of_ble_eq_true rfl⟩, hts _ zsw633, hts _ zsw634⟩ ⟨zPs_blind G _, vk_recv (adK := fun i => zet G (1 + i)) (i := j) hE hj hS, fun U hU hW => ⟨rfl, hT.warm hW, by rw [hU]; exact hs0⟩⟩ rfl rfl hl.1 rfl (Nat.le_of_ble_eq_true rfl) zd_cha_1 ⟨Nat.le_of_ble_eq_true rfl, Nat.le_of_ble_eq_true rfl⟩) ?_
  refine lv_if_eq hx hb zd_cha_4 (tgt := 16) rfl (fun z => absurd z (by decide)) (fun _ => ?_)
  refine lv_aload_n hx hb zd_cha_7 rfl (lv_at hl 0 rfl) ?_
  refine vk_getf hx hb hO hS hown (hts _ zsw2010) (fun _ h => h) zd_cha_8 ?_
  refine lv_iload_n hx hb zd_cha_11 rfl (lv_at hl 1 rfl) ?_
  have hM := s_lat l G j i hj hi
  refine zs_back (x := (some (.int (zsc (1 + j) i.toNatClampNeg)))) (va_runS (own := "java/lang/String") (y := ys_lat) (index := 495) (bytes := prog_26_method_2_code) (maxL := 2) (ret := (some .char)) (n := 2) (rest := []) (As := [.ref (zet G (8 + j)), .int i]) (Ts := zGW) ⟨hx, hb, hml, hown, hts⟩ hM
    ⟨callB_of 2 hts (fun w hw => by rcases List.mem_cons.mp hw with rfl | hw; exact zG1 zsw638 _ (List.mem_singleton.mpr rfl); exact zG1 hw _ (List.mem_singleton.mpr rfl)) rfl rfl rfl (hts _ zsw20) (hts _ zsw636) ⟨by decide, by decide, by decide⟩ ⟨Nat.le_of_ble_eq_true rfl, Nat.le_of_ble_eq_true rfl⟩, hts _ zsw637⟩ ⟨zPs_blind G _, fun U hU hW => ⟨rfl, hT.warm hW, by rw [hU]; exact hs0⟩⟩ rfl rfl hl.1 rfl (Nat.le_of_ble_eq_true rfl) zd_cha_12 ⟨Nat.le_of_ble_eq_true rfl, Nat.le_of_ble_eq_true rfl⟩) ?_
  exact W.zret (ty := .char) hx hb hr g2 (fun t ht hW => ⟨rfl, ht⟩) (fun _ h => nomatch h) zd_cha_15 hlocks
theorem s_len (l : Launch) (G : zG) (j : Nat) (hj : j < 7) : Met l ys_len (Cond.code ys_len prog_25_method_54_code 1 (some .int) :: zGW) ({ frames := 1, cells := 0, slots := 0, locals := 20 } : Room) (zPs G [.ref (zet G (1 + j))]) (zQs (some (.int (nI (zsl (1 + j)))))) 0 0 (fun _ => False) := by
  have f1 : Int32.ofNat (zLenW.getD j 0) >>> ((0 : Int32) &&& 31) = nI (zsl (1 + j)) := by
    have : ∀ j, j < 7 → Int32.ofNat (zLenW.getD j 0) >>> ((0 : Int32) &&& 31) = nI (zsl (1 + j)) := by decide +kernel
    exact this j hj
  refine Met.ofW (cc := prog_25_method_54_code) (maxL := 1) (ret := (some .int)) (by decide) rfl ?_
  intro p e s m args below meth c s₁ B hml hv
  obtain ⟨rfl, hT, hs0⟩ := hv
  have hx := B.exec
  have hb := B.bytes
  have hr := B.returns
  have hts0 := atoms_spec (ws := (Cond.code ys_len prog_25_method_54_code 1 (some .int) :: zGW)) B.pre
  have hts : ∀ w ∈ zGW, w.before [.ref (zet G (1 + j))].toArray s = true := fun w hw => hts0 w (List.mem_cons_of_mem _ hw)
  have hown : s.vm.findClass "java/lang/String" = some m.cls := findClass_of_methodNamed B.named
  have hlocks := B.notSynchronized
  obtain ⟨hE, hZ, hF⟩ := zStr_at hT hs0
  have hS : va_S (fun q => zb0 G ≤ q) s.heap s.heap [] := va_S.rf
  have hl := lv_entry ([.ref (zet G (1 + j))]) (n := 1) (Nat.le_of_ble_eq_true rfl)
  rw [lg_entry_eq]
  generalize (lg_sl ([.ref (zet G (1 + j))]) ++ List.replicate (1 - (lg_sl ([.ref (zet G (1 + j))])).length) Slot.unset).toArray = ls at hl ⊢
  have hl : lv_has ls 1 [(0, .ref (zet G (1 + j)))] := hl
  have hO := (hE.1 j hj).2.2.1
  have hTb := (hE.1 j hj).2.2.2
  refine lv_aload_n hx hb zd_len_0 rfl (lv_at hl 0 rfl) ?_
  refine vk_getf hx hb hO hS hown (hts _ zsw2010) (fun _ h => h) zd_len_1 ?_
  refine va_tlen hx hb hTb hS rfl zd_len_4 ?_
  refine lv_aload_n hx hb zd_len_5 rfl (lv_at hl 0 rfl) ?_
  have hM := s_cod l G j hj
  refine zs_back (x := (some (.int 0))) (va_runV (own := "java/lang/String") (C := "java/lang/String") (y := ys_cod) (index := 335) (bytes := prog_25_method_152_code) (maxL := 1) (ret := (some .byte)) (n := 0) (b := zet G (1 + j)) (rest := [.int (Int32.ofNat (zLenW.getD j 0))]) (As := []) (Ts := zGW) ⟨hx, hb, hml, hown, hts⟩ hM
    ⟨callB_of 0 hts (fun w hw => by rcases List.mem_cons.mp hw with rfl | hw; exact zG1 zsw625 _ (List.mem_singleton.mpr rfl); exact zG1 hw _ (List.mem_singleton.mpr rfl)) rfl rfl rfl (hts _ zsw19) (hts _ zsw622) ⟨by decide, by decide, by decide⟩ ⟨Nat.le_of_ble_eq_true rfl, Nat.le_of_ble_eq_true rfl⟩, hts _ zsw623, hts _ zsw624⟩ ⟨zPs_blind G _, vk_recv (adK := fun i => zet G (1 + i)) (i := j) hE hj hS, fun U hU hW => ⟨rfl, hT.warm hW, by rw [hU]; exact hs0⟩⟩ rfl rfl hl.1 rfl (Nat.le_of_ble_eq_true rfl) zd_len_6 ⟨Nat.le_of_ble_eq_true rfl, Nat.le_of_ble_eq_true rfl⟩) ?_
  refine lv_ishr hx hb zd_len_9 ?_
  rw [f1]
  exact W.iret hx hb hr (fun t ht hW => ⟨rfl, ht⟩) (fun _ h => nomatch h) zd_len_10 hlocks
