/-! THE TABLES' WORDS, BY THEIR PLACES -/
theorem zw {w : Cond} (h : w ∈ tables_1) (hg : goodWord w = true) : w ∈ zGW := zGW_in (List.mem_append_right _ h) hg
theorem zxw {w : Cond} (h : w ∈ tables_1) (hg : zXgood w = true) : w ∈ zXW := List.mem_filter.mpr ⟨h, hg⟩
theorem zt1 {i : Nat} {w : Cond} (h : tables_1_1[i]? = some w) : w ∈ tables_1 := by
  have h := List.mem_of_getElem? h
  exact List.mem_append_left _ h
theorem zt2 {i : Nat} {w : Cond} (h : tables_1_2[i]? = some w) : w ∈ tables_1 := by
  have h := List.mem_of_getElem? h
  exact List.mem_append_right _ (List.mem_append_left _ h)
theorem zt3 {i : Nat} {w : Cond} (h : tables_1_3[i]? = some w) : w ∈ tables_1 := by
  have h := List.mem_of_getElem? h
  exact List.mem_append_right _ (List.mem_append_right _ (List.mem_append_left _ h))
theorem zt4 {i : Nat} {w : Cond} (h : tables_1_4[i]? = some w) : w ∈ tables_1 := by
  have h := List.mem_of_getElem? h
  exact List.mem_append_right _ (List.mem_append_right _ (List.mem_append_right _ (List.mem_append_left _ h)))
theorem zt5 {i : Nat} {w : Cond} (h : tables_1_5[i]? = some w) : w ∈ tables_1 := by
  have h := List.mem_of_getElem? h
  exact List.mem_append_right _ (List.mem_append_right _ (List.mem_append_right _ (List.mem_append_right _ (List.mem_append_left _ h))))
theorem zt6 {i : Nat} {w : Cond} (h : tables_1_6[i]? = some w) : w ∈ tables_1 := by
  have h := List.mem_of_getElem? h
  exact List.mem_append_right _ (List.mem_append_right _ (List.mem_append_right _ (List.mem_append_right _ (List.mem_append_right _ (List.mem_append_left _ h)))))
theorem zt7 {i : Nat} {w : Cond} (h : tables_1_7[i]? = some w) : w ∈ tables_1 := by
  have h := List.mem_of_getElem? h
  exact List.mem_append_right _ (List.mem_append_right _ (List.mem_append_right _ (List.mem_append_right _ (List.mem_append_right _ (List.mem_append_right _ (List.mem_append_left _ h))))))
theorem zt8 {i : Nat} {w : Cond} (h : tables_1_8[i]? = some w) : w ∈ tables_1 := by
  have h := List.mem_of_getElem? h
  exact List.mem_append_right _ (List.mem_append_right _ (List.mem_append_right _ (List.mem_append_right _ (List.mem_append_right _ (List.mem_append_right _ (List.mem_append_right _ (List.mem_append_left _ h)))))))
theorem zt9 {i : Nat} {w : Cond} (h : tables_1_9[i]? = some w) : w ∈ tables_1 := by
  have h := List.mem_of_getElem? h
  exact List.mem_append_right _ (List.mem_append_right _ (List.mem_append_right _ (List.mem_append_right _ (List.mem_append_right _ (List.mem_append_right _ (List.mem_append_right _ (List.mem_append_right _ (h))))))))
theorem zpr1 {i : Nat} {w : MethodName × Nat} (h : lw_privs_1[i]? = some w) : w ∈ lw_privs := by
  have h := List.mem_of_getElem? h
  exact List.mem_append_left _ h
theorem zpr2 {i : Nat} {w : MethodName × Nat} (h : lw_privs_2[i]? = some w) : w ∈ lw_privs := by
  have h := List.mem_of_getElem? h
  exact List.mem_append_right _ (List.mem_append_left _ h)
theorem zpr3 {i : Nat} {w : MethodName × Nat} (h : lw_privs_3[i]? = some w) : w ∈ lw_privs := by
  have h := List.mem_of_getElem? h
  exact List.mem_append_right _ (List.mem_append_right _ (List.mem_append_left _ h))
theorem zpr4 {i : Nat} {w : MethodName × Nat} (h : lw_privs_4[i]? = some w) : w ∈ lw_privs := by
  have h := List.mem_of_getElem? h
  exact List.mem_append_right _ (List.mem_append_right _ (List.mem_append_right _ (List.mem_append_left _ h)))
theorem zpr5 {i : Nat} {w : MethodName × Nat} (h : lw_privs_5[i]? = some w) : w ∈ lw_privs := by
  have h := List.mem_of_getElem? h
  exact List.mem_append_right _ (List.mem_append_right _ (List.mem_append_right _ (List.mem_append_right _ (List.mem_append_left _ h))))
theorem zpr6 {i : Nat} {w : MethodName × Nat} (h : lw_privs_6[i]? = some w) : w ∈ lw_privs := by
  have h := List.mem_of_getElem? h
  exact List.mem_append_right _ (List.mem_append_right _ (List.mem_append_right _ (List.mem_append_right _ (List.mem_append_right _ (List.mem_append_left _ h)))))
theorem zpr7 {i : Nat} {w : MethodName × Nat} (h : lw_privs_7[i]? = some w) : w ∈ lw_privs := by
  have h := List.mem_of_getElem? h
  exact List.mem_append_right _ (List.mem_append_right _ (List.mem_append_right _ (List.mem_append_right _ (List.mem_append_right _ (List.mem_append_right _ (List.mem_append_left _ h))))))
theorem zpr8 {i : Nat} {w : MethodName × Nat} (h : lw_privs_8[i]? = some w) : w ∈ lw_privs := by
  have h := List.mem_of_getElem? h
  exact List.mem_append_right _ (List.mem_append_right _ (List.mem_append_right _ (List.mem_append_right _ (List.mem_append_right _ (List.mem_append_right _ (List.mem_append_right _ (h)))))))
theorem zse {y : MethodName} {n : Nat} (h : (y, n) ∈ lw_privs) : Cond.selects y.cls y y ∈ zGW := by
  refine zGW_in (List.mem_append_left _ ?_) rfl
  first
    | exact List.mem_map.mpr ⟨(y, n), h, rfl⟩
    | exact List.mem_flatMap.mpr ⟨(y, n), h, by simp⟩
def zCb (a n : Nat) : Prop := zhh (zP a) = none ∧ Cond.code (zy (zP a)) (zcc (zP a)) (zml (zP a)) (zrt (zP a)) ∈ zGW ∧ Cond.initialized (zy (zP a)).cls ∈ zGW ∧ ((zy (zP a)).cls ≠ "java/lang/invoke/MethodHandle" ∧ (zy (zP a)).cls ≠ "java/lang/invoke/VarHandle" ∧ (parseMethodDescriptor (zy (zP a)).desc).map (fun d => d.parameters.length) = some n)
def zCw (a n : Nat) : Prop := ∃ hh, zhh (zP a) = some hh ∧ Cond.codeWith (zy (zP a)) (zcc (zP a)) (zml (zP a)) (zrt (zP a)) hh ∈ zGW ∧ Cond.initialized (zy (zP a)).cls ∈ zGW ∧ ((zy (zP a)).cls ≠ "java/lang/invoke/MethodHandle" ∧ (zy (zP a)).cls ≠ "java/lang/invoke/VarHandle" ∧ (parseMethodDescriptor (zy (zP a)).desc).map (fun d => d.parameters.length) = some n)
set_option maxRecDepth 10000 in
theorem zwd0 : (Jvm.Cond.initialized "RightTurnsLaw") ∈ zGW := zw (zt1 (i := 0) rfl) rfl
set_option maxRecDepth 10000 in
theorem zwd1 : (Jvm.Cond.initialized "RightTurns") ∈ zGW := zw (zt1 (i := 1) rfl) rfl
set_option maxRecDepth 10000 in
theorem zwd2 : (Jvm.Cond.initialized "RightTurns$Town") ∈ zGW := zw (zt1 (i := 2) rfl) rfl
set_option maxRecDepth 10000 in
theorem zwd3 : (Jvm.Cond.initialized "RightTurns$Reader") ∈ zGW := zw (zt1 (i := 3) rfl) rfl
set_option maxRecDepth 10000 in
theorem zwd4 : (Jvm.Cond.initialized "RightTurns$Changes") ∈ zGW := zw (zt1 (i := 4) rfl) rfl
set_option maxRecDepth 10000 in
theorem zwd5 : (Jvm.Cond.initialized "RightTurns$Rules") ∈ zGW := zw (zt1 (i := 5) rfl) rfl
set_option maxRecDepth 10000 in
theorem zwd6 : (Jvm.Cond.initialized "RightTurns$Routes") ∈ zGW := zw (zt1 (i := 6) rfl) rfl
set_option maxRecDepth 10000 in
theorem zwd7 : (Jvm.Cond.initialized "RightTurns$Choices") ∈ zGW := zw (zt1 (i := 7) rfl) rfl
set_option maxRecDepth 10000 in
theorem zwd8 : (Jvm.Cond.initialized "RightTurns$Post") ∈ zGW := zw (zt1 (i := 8) rfl) rfl
set_option maxRecDepth 10000 in
theorem zwd9 : (Jvm.Cond.initialized "RightTurns$Traffic") ∈ zGW := zw (zt1 (i := 9) rfl) rfl
set_option maxRecDepth 10000 in
theorem zwd10 : (Jvm.Cond.initialized "RightTurns$Story") ∈ zGW := zw (zt1 (i := 10) rfl) rfl
set_option maxRecDepth 10000 in
theorem zwd11 : (Jvm.Cond.initialized "RightTurns$Images") ∈ zGW := zw (zt1 (i := 11) rfl) rfl
set_option maxRecDepth 10000 in
theorem zwd12 : (Jvm.Cond.initialized "RightTurnsModel") ∈ zGW := zw (zt1 (i := 12) rfl) rfl
set_option maxRecDepth 10000 in
theorem zwd17 : (Jvm.Cond.initialized "java/lang/Math") ∈ zGW := zw (zt1 (i := 17) rfl) rfl
set_option maxRecDepth 10000 in
theorem zwd18 : (Jvm.Cond.initialized "java/util/Arrays") ∈ zGW := zw (zt1 (i := 18) rfl) rfl
set_option maxRecDepth 10000 in
theorem zwd23 : (Jvm.Cond.initialized "java/lang/Integer") ∈ zGW := zw (zt1 (i := 23) rfl) rfl
set_option maxRecDepth 10000 in
theorem zwd25 : (Jvm.Cond.initialized "java/lang/System") ∈ zGW := zw (zt1 (i := 25) rfl) rfl
set_option maxRecDepth 10000 in
theorem zwd27 : (Jvm.Cond.initialized "java/lang/Long") ∈ zGW := zw (zt1 (i := 27) rfl) rfl
set_option maxRecDepth 10000 in
theorem zwd28 : (Jvm.Cond.initialized "RightTurns$Reach") ∈ zGW := zw (zt1 (i := 28) rfl) rfl
set_option maxRecDepth 10000 in
theorem zwd29 : (Jvm.Cond.classLink "RightTurnsLaw" (8 : Nat) "RightTurns") ∈ zGW := zw (zt1 (i := 29) rfl) rfl
set_option maxRecDepth 10000 in
theorem zwd30 : (Jvm.Cond.instantiable "RightTurns" (14 : Nat)) ∈ zGW := zw (zt1 (i := 30) rfl) rfl
set_option maxRecDepth 10000 in
theorem zwd31 : (Jvm.Cond.methodLink "RightTurnsLaw" (120 : Nat) ({ cls := "RightTurns", name := "<init>", desc := "()V" } : Jvm.MethodName)) ∈ zGW := zw (zt1 (i := 31) rfl) rfl
set_option maxRecDepth 10000 in
theorem zwd32 : (Jvm.Cond.instanceMethod ({ cls := "RightTurns", name := "<init>", desc := "()V" } : Jvm.MethodName)) ∈ zGW := zw (zt1 (i := 32) rfl) rfl
set_option maxRecDepth 10000 in
theorem zwd33 : (Jvm.Cond.code ({ cls := "RightTurns", name := "<init>", desc := "()V" } : Jvm.MethodName) prog_1_method_1_code (1 : Nat) (Option.none : Option Jvm.ClassFile.FieldType)) ∈ zGW := zw (zt1 (i := 33) rfl) rfl
set_option maxRecDepth 10000 in
theorem zwd34 : (Jvm.Cond.methodLink "RightTurns" (1 : Nat) ({ cls := "java/lang/Object", name := "<init>", desc := "()V" } : Jvm.MethodName)) ∈ zGW := zw (zt1 (i := 34) rfl) rfl
set_option maxRecDepth 10000 in
theorem zwd35 : (Jvm.Cond.instanceMethod ({ cls := "java/lang/Object", name := "<init>", desc := "()V" } : Jvm.MethodName)) ∈ zGW := zw (zt1 (i := 35) rfl) rfl
set_option maxRecDepth 10000 in
theorem zwd36 : (Jvm.Cond.code ({ cls := "java/lang/Object", name := "<init>", desc := "()V" } : Jvm.MethodName) object_method_1_code (1 : Nat) (Option.none : Option Jvm.ClassFile.FieldType)) ∈ zGW := zw (zt1 (i := 36) rfl) rfl
set_option maxRecDepth 10000 in
theorem zwd37 : (Jvm.Cond.classLink "RightTurns" (20 : Nat) "RightTurns$Town") ∈ zGW := zw (zt1 (i := 37) rfl) rfl
set_option maxRecDepth 10000 in
theorem zwd38 : (Jvm.Cond.instantiable "RightTurns$Town" (19 : Nat)) ∈ zGW := zw (zt1 (i := 38) rfl) rfl
set_option maxRecDepth 10000 in
theorem zwd40 : (Jvm.Cond.instanceMethod ({ cls := "RightTurns$Town", name := "<init>", desc := "()V" } : Jvm.MethodName)) ∈ zGW := zw (zt1 (i := 40) rfl) rfl
set_option maxRecDepth 10000 in
theorem zwd41 : (Jvm.Cond.code ({ cls := "RightTurns$Town", name := "<init>", desc := "()V" } : Jvm.MethodName) prog_11_method_1_code (1 : Nat) (Option.none : Option Jvm.ClassFile.FieldType)) ∈ zGW := zw (zt1 (i := 41) rfl) rfl
set_option maxRecDepth 10000 in
theorem zwd42 : (Jvm.Cond.methodLink "RightTurns$Town" (3 : Nat) ({ cls := "java/lang/Object", name := "<init>", desc := "()V" } : Jvm.MethodName)) ∈ zGW := zw (zt1 (i := 42) rfl) rfl
set_option maxRecDepth 10000 in
theorem zwd43 : (Jvm.Cond.fieldLink "RightTurns$Town" (9 : Nat) "RightTurns$Town" "corners" "I") ∈ zGW := zw (zt1 (i := 43) rfl) rfl
set_option maxRecDepth 10000 in
theorem zwd44 : (Jvm.Cond.fieldLink "RightTurns$Reach" (27 : Nat) "RightTurns$Town" "corners" "I") ∈ zGW := zw (zt1 (i := 44) rfl) rfl
set_option maxRecDepth 10000 in
theorem zwd45 : (Jvm.Cond.fieldLink "RightTurns" (123 : Nat) "RightTurns$Town" "corners" "I") ∈ zGW := zw (zt1 (i := 45) rfl) rfl
set_option maxRecDepth 10000 in
theorem zwd46 : (Jvm.Cond.fieldLink "RightTurns$Reader" (108 : Nat) "RightTurns$Town" "corners" "I") ∈ zGW := zw (zt1 (i := 46) rfl) rfl
set_option maxRecDepth 10000 in
theorem zwd47 : (Jvm.Cond.fieldLink "RightTurns$Post" (108 : Nat) "RightTurns$Town" "corners" "I") ∈ zGW := zw (zt1 (i := 47) rfl) rfl
set_option maxRecDepth 10000 in
theorem zwd48 : (Jvm.Cond.fieldLink "RightTurns$Choices" (96 : Nat) "RightTurns$Town" "corners" "I") ∈ zGW := zw (zt1 (i := 48) rfl) rfl
set_option maxRecDepth 10000 in
theorem zwd49 : (Jvm.Cond.fieldLink "RightTurns$Traffic" (105 : Nat) "RightTurns$Town" "corners" "I") ∈ zGW := zw (zt1 (i := 49) rfl) rfl
set_option maxRecDepth 10000 in
theorem zwd50 : (Jvm.Cond.fieldLink "RightTurns$Town" (15 : Nat) "RightTurns$Town" "streets" "I") ∈ zGW := zw (zt1 (i := 50) rfl) rfl
set_option maxRecDepth 10000 in
theorem zwd51 : (Jvm.Cond.fieldLink "RightTurns$Routes" (50 : Nat) "RightTurns$Town" "streets" "I") ∈ zGW := zw (zt1 (i := 51) rfl) rfl
set_option maxRecDepth 10000 in
theorem zwd52 : (Jvm.Cond.fieldLink "RightTurns$Story" (47 : Nat) "RightTurns$Town" "streets" "I") ∈ zGW := zw (zt1 (i := 52) rfl) rfl
set_option maxRecDepth 10000 in
theorem zwd53 : (Jvm.Cond.fieldLink "RightTurns$Post" (67 : Nat) "RightTurns$Town" "streets" "I") ∈ zGW := zw (zt1 (i := 53) rfl) rfl
set_option maxRecDepth 10000 in
theorem zwd54 : (Jvm.Cond.fieldLink "RightTurns$Rules" (39 : Nat) "RightTurns$Town" "streets" "I") ∈ zGW := zw (zt1 (i := 54) rfl) rfl
set_option maxRecDepth 10000 in
theorem zwd55 : (Jvm.Cond.fieldLink "RightTurns$Reach" (38 : Nat) "RightTurns$Town" "streets" "I") ∈ zGW := zw (zt1 (i := 55) rfl) rfl
set_option maxRecDepth 10000 in
theorem zwd56 : (Jvm.Cond.fieldLink "RightTurns" (126 : Nat) "RightTurns$Town" "streets" "I") ∈ zGW := zw (zt1 (i := 56) rfl) rfl
set_option maxRecDepth 10000 in
theorem zwd57 : (Jvm.Cond.fieldLink "RightTurns$Reader" (115 : Nat) "RightTurns$Town" "streets" "I") ∈ zGW := zw (zt1 (i := 57) rfl) rfl
set_option maxRecDepth 10000 in
theorem zwd58 : (Jvm.Cond.fieldLink "RightTurns$Traffic" (112 : Nat) "RightTurns$Town" "streets" "I") ∈ zGW := zw (zt1 (i := 58) rfl) rfl
set_option maxRecDepth 10000 in
theorem zwd59 : (Jvm.Cond.fieldLink "RightTurns$Town" (18 : Nat) "RightTurns$Town" "riders" "I") ∈ zGW := zw (zt1 (i := 59) rfl) rfl
set_option maxRecDepth 10000 in
theorem zwd60 : (Jvm.Cond.fieldLink "RightTurns$Traffic" (43 : Nat) "RightTurns$Town" "riders" "I") ∈ zGW := zw (zt1 (i := 60) rfl) rfl
set_option maxRecDepth 10000 in
theorem zwd61 : (Jvm.Cond.fieldLink "RightTurns" (138 : Nat) "RightTurns$Town" "riders" "I") ∈ zGW := zw (zt1 (i := 61) rfl) rfl
set_option maxRecDepth 10000 in
theorem zwd62 : (Jvm.Cond.fieldLink "RightTurns$Choices" (80 : Nat) "RightTurns$Town" "riders" "I") ∈ zGW := zw (zt1 (i := 62) rfl) rfl
set_option maxRecDepth 10000 in
theorem zwd63 : (Jvm.Cond.fieldLink "RightTurns$Town" (21 : Nat) "RightTurns$Town" "boxes" "I") ∈ zGW := zw (zt1 (i := 63) rfl) rfl
set_option maxRecDepth 10000 in
theorem zwd64 : (Jvm.Cond.fieldLink "RightTurns" (129 : Nat) "RightTurns$Town" "boxes" "I") ∈ zGW := zw (zt1 (i := 64) rfl) rfl
set_option maxRecDepth 10000 in
theorem zwd65 : (Jvm.Cond.fieldLink "RightTurns$Post" (111 : Nat) "RightTurns$Town" "boxes" "I") ∈ zGW := zw (zt1 (i := 65) rfl) rfl
set_option maxRecDepth 10000 in
theorem zwd66 : (Jvm.Cond.fieldLink "RightTurns$Reader" (131 : Nat) "RightTurns$Town" "boxes" "I") ∈ zGW := zw (zt1 (i := 66) rfl) rfl
set_option maxRecDepth 10000 in
theorem zwd67 : (Jvm.Cond.fieldLink "RightTurns$Town" (24 : Nat) "RightTurns$Town" "lefts" "I") ∈ zGW := zw (zt1 (i := 67) rfl) rfl
set_option maxRecDepth 10000 in
theorem zwd68 : (Jvm.Cond.fieldLink "RightTurns$Choices" (35 : Nat) "RightTurns$Town" "lefts" "I") ∈ zGW := zw (zt1 (i := 68) rfl) rfl
set_option maxRecDepth 10000 in
theorem zwd69 : (Jvm.Cond.fieldLink "RightTurns" (141 : Nat) "RightTurns$Town" "lefts" "I") ∈ zGW := zw (zt1 (i := 69) rfl) rfl
set_option maxRecDepth 10000 in
theorem zwd70 : (Jvm.Cond.fieldLink "RightTurns$Town" (27 : Nat) "RightTurns$Town" "arcs" "J") ∈ zGW := zw (zt1 (i := 70) rfl) rfl
set_option maxRecDepth 10000 in
theorem zwd71 : (Jvm.Cond.fieldLink "RightTurns$Routes" (22 : Nat) "RightTurns$Town" "arcs" "J") ∈ zGW := zw (zt1 (i := 71) rfl) rfl
set_option maxRecDepth 10000 in
theorem zwd72 : (Jvm.Cond.fieldLink "RightTurns$Reader" (118 : Nat) "RightTurns$Town" "arcs" "J") ∈ zGW := zw (zt1 (i := 72) rfl) rfl
set_option maxRecDepth 10000 in
theorem zwd73 : (Jvm.Cond.fieldLink "RightTurns" (225 : Nat) "RightTurns$Town" "arcs" "J") ∈ zGW := zw (zt1 (i := 73) rfl) rfl
set_option maxRecDepth 10000 in
theorem zwd74 : (Jvm.Cond.fieldLink "RightTurns$Town" (31 : Nat) "RightTurns$Town" "x" "[I") ∈ zGW := zw (zt1 (i := 74) rfl) rfl
set_option maxRecDepth 10000 in
theorem zwd75 : (Jvm.Cond.fieldLink "RightTurns$Town" (35 : Nat) "RightTurns$Town" "y" "[I") ∈ zGW := zw (zt1 (i := 75) rfl) rfl
set_option maxRecDepth 10000 in
theorem zwd76 : (Jvm.Cond.fieldLink "RightTurns$Town" (38 : Nat) "RightTurns$Town" "begin" "[I") ∈ zGW := zw (zt1 (i := 76) rfl) rfl
set_option maxRecDepth 10000 in
theorem zwd77 : (Jvm.Cond.fieldLink "RightTurns$Routes" (53 : Nat) "RightTurns$Town" "begin" "[I") ∈ zGW := zw (zt1 (i := 77) rfl) rfl
set_option maxRecDepth 10000 in
theorem zwd78 : (Jvm.Cond.fieldLink "RightTurns" (153 : Nat) "RightTurns$Town" "begin" "[I") ∈ zGW := zw (zt1 (i := 78) rfl) rfl
set_option maxRecDepth 10000 in
theorem zwd79 : (Jvm.Cond.fieldLink "RightTurns$Town" (41 : Nat) "RightTurns$Town" "end" "[I") ∈ zGW := zw (zt1 (i := 79) rfl) rfl
set_option maxRecDepth 10000 in
theorem zwd80 : (Jvm.Cond.fieldLink "RightTurns" (156 : Nat) "RightTurns$Town" "end" "[I") ∈ zGW := zw (zt1 (i := 80) rfl) rfl
set_option maxRecDepth 10000 in
theorem zwd81 : (Jvm.Cond.fieldLink "RightTurns$Routes" (76 : Nat) "RightTurns$Town" "end" "[I") ∈ zGW := zw (zt1 (i := 81) rfl) rfl
set_option maxRecDepth 10000 in
theorem zwd82 : (Jvm.Cond.fieldLink "RightTurns$Traffic" (102 : Nat) "RightTurns$Town" "end" "[I") ∈ zGW := zw (zt1 (i := 82) rfl) rfl
set_option maxRecDepth 10000 in
theorem zwd83 : (Jvm.Cond.fieldLink "RightTurns$Town" (44 : Nat) "RightTurns$Town" "length" "[I") ∈ zGW := zw (zt1 (i := 83) rfl) rfl
set_option maxRecDepth 10000 in
theorem zwd84 : (Jvm.Cond.fieldLink "RightTurns$Routes" (36 : Nat) "RightTurns$Town" "length" "[I") ∈ zGW := zw (zt1 (i := 84) rfl) rfl
set_option maxRecDepth 10000 in
theorem zwd85 : (Jvm.Cond.fieldLink "RightTurns$Choices" (50 : Nat) "RightTurns$Town" "length" "[I") ∈ zGW := zw (zt1 (i := 85) rfl) rfl
set_option maxRecDepth 10000 in
theorem zwd86 : (Jvm.Cond.fieldLink "RightTurns$Post" (80 : Nat) "RightTurns$Town" "length" "[I") ∈ zGW := zw (zt1 (i := 86) rfl) rfl
set_option maxRecDepth 10000 in
theorem zwd87 : (Jvm.Cond.fieldLink "RightTurns$Traffic" (81 : Nat) "RightTurns$Town" "length" "[I") ∈ zGW := zw (zt1 (i := 87) rfl) rfl
set_option maxRecDepth 10000 in
theorem zwd88 : (Jvm.Cond.fieldLink "RightTurns" (159 : Nat) "RightTurns$Town" "length" "[I") ∈ zGW := zw (zt1 (i := 88) rfl) rfl
set_option maxRecDepth 10000 in
theorem zwd89 : (Jvm.Cond.fieldLink "RightTurns$Town" (47 : Nat) "RightTurns$Town" "signs" "[J") ∈ zGW := zw (zt1 (i := 89) rfl) rfl
set_option maxRecDepth 10000 in
theorem zwd90 : (Jvm.Cond.fieldLink "RightTurns$Rules" (21 : Nat) "RightTurns$Town" "signs" "[J") ∈ zGW := zw (zt1 (i := 90) rfl) rfl
set_option maxRecDepth 10000 in
theorem zwd91 : (Jvm.Cond.fieldLink "RightTurns$Reader" (87 : Nat) "RightTurns$Town" "signs" "[J") ∈ zGW := zw (zt1 (i := 91) rfl) rfl
set_option maxRecDepth 10000 in
theorem zwd92 : (Jvm.Cond.fieldLink "RightTurns$Town" (51 : Nat) "RightTurns$Town" "allowed" "[J") ∈ zGW := zw (zt1 (i := 92) rfl) rfl
set_option maxRecDepth 10000 in
theorem zwd93 : (Jvm.Cond.fieldLink "RightTurns$Rules" (30 : Nat) "RightTurns$Town" "allowed" "[J") ∈ zGW := zw (zt1 (i := 93) rfl) rfl
set_option maxRecDepth 10000 in
theorem zwd94 : (Jvm.Cond.fieldLink "RightTurns$Reader" (91 : Nat) "RightTurns$Town" "allowed" "[J") ∈ zGW := zw (zt1 (i := 94) rfl) rfl
set_option maxRecDepth 10000 in
theorem zwd95 : (Jvm.Cond.fieldLink "RightTurns$Town" (54 : Nat) "RightTurns$Town" "trips" "[I") ∈ zGW := zw (zt1 (i := 95) rfl) rfl
set_option maxRecDepth 10000 in
theorem zwd96 : (Jvm.Cond.fieldLink "RightTurns$Traffic" (48 : Nat) "RightTurns$Town" "trips" "[I") ∈ zGW := zw (zt1 (i := 96) rfl) rfl
set_option maxRecDepth 10000 in
theorem zwd97 : (Jvm.Cond.fieldLink "RightTurns$Choices" (83 : Nat) "RightTurns$Town" "trips" "[I") ∈ zGW := zw (zt1 (i := 97) rfl) rfl
set_option maxRecDepth 10000 in
theorem zwd98 : (Jvm.Cond.fieldLink "RightTurns$Town" (57 : Nat) "RightTurns$Town" "outOf" "[J") ∈ zGW := zw (zt1 (i := 98) rfl) rfl
set_option maxRecDepth 10000 in
theorem zwd99 : (Jvm.Cond.fieldLink "RightTurns$Reach" (15 : Nat) "RightTurns$Town" "outOf" "[J") ∈ zGW := zw (zt1 (i := 99) rfl) rfl
set_option maxRecDepth 10000 in
theorem zwd100 : (Jvm.Cond.fieldLink "RightTurns$Story" (39 : Nat) "RightTurns$Town" "outOf" "[J") ∈ zGW := zw (zt1 (i := 100) rfl) rfl
set_option maxRecDepth 10000 in
theorem zwd101 : (Jvm.Cond.fieldLink "RightTurns$Post" (72 : Nat) "RightTurns$Town" "outOf" "[J") ∈ zGW := zw (zt1 (i := 101) rfl) rfl
set_option maxRecDepth 10000 in
theorem zwd102 : (Jvm.Cond.fieldLink "RightTurns$Routes" (66 : Nat) "RightTurns$Town" "outOf" "[J") ∈ zGW := zw (zt1 (i := 102) rfl) rfl
set_option maxRecDepth 10000 in
theorem zwd103 : (Jvm.Cond.fieldLink "RightTurns$Town" (60 : Nat) "RightTurns$Town" "into" "[J") ∈ zGW := zw (zt1 (i := 103) rfl) rfl
set_option maxRecDepth 10000 in
theorem zwd104 : (Jvm.Cond.fieldLink "RightTurns$Routes" (28 : Nat) "RightTurns$Town" "into" "[J") ∈ zGW := zw (zt1 (i := 104) rfl) rfl
set_option maxRecDepth 10000 in
theorem zwd105 : (Jvm.Cond.fieldLink "RightTurns$Reach" (31 : Nat) "RightTurns$Town" "into" "[J") ∈ zGW := zw (zt1 (i := 105) rfl) rfl
set_option maxRecDepth 10000 in
theorem zwd106 : (Jvm.Cond.fieldLink "RightTurns$Story" (44 : Nat) "RightTurns$Town" "into" "[J") ∈ zGW := zw (zt1 (i := 106) rfl) rfl
set_option maxRecDepth 10000 in
theorem zwd107 : (Jvm.Cond.fieldLink "RightTurns$Post" (83 : Nat) "RightTurns$Town" "into" "[J") ∈ zGW := zw (zt1 (i := 107) rfl) rfl
set_option maxRecDepth 10000 in
theorem zwd108 : (Jvm.Cond.fieldLink "RightTurns$Town" (63 : Nat) "RightTurns$Town" "leftward" "[J") ∈ zGW := zw (zt1 (i := 108) rfl) rfl
set_option maxRecDepth 10000 in
theorem zwd109 : (Jvm.Cond.fieldLink "RightTurns$Rules" (43 : Nat) "RightTurns$Town" "leftward" "[J") ∈ zGW := zw (zt1 (i := 109) rfl) rfl
set_option maxRecDepth 10000 in
theorem zwd110 : (Jvm.Cond.fieldLink "RightTurns$Choices" (113 : Nat) "RightTurns$Town" "leftward" "[J") ∈ zGW := zw (zt1 (i := 110) rfl) rfl
set_option maxRecDepth 10000 in
theorem zwd111 : (Jvm.Cond.fieldLink "RightTurns$Town" (66 : Nat) "RightTurns$Town" "forward" "[J") ∈ zGW := zw (zt1 (i := 111) rfl) rfl
set_option maxRecDepth 10000 in
theorem zwd112 : (Jvm.Cond.fieldLink "RightTurns$Rules" (48 : Nat) "RightTurns$Town" "forward" "[J") ∈ zGW := zw (zt1 (i := 112) rfl) rfl
set_option maxRecDepth 10000 in
theorem zwd113 : (Jvm.Cond.fieldLink "RightTurns" (346 : Nat) "RightTurns$Town" "forward" "[J") ∈ zGW := zw (zt1 (i := 113) rfl) rfl
set_option maxRecDepth 10000 in
theorem zwd114 : (Jvm.Cond.fieldLink "RightTurns$Town" (69 : Nat) "RightTurns$Town" "leftTurns" "[I") ∈ zGW := zw (zt1 (i := 114) rfl) rfl
set_option maxRecDepth 10000 in
theorem zwd115 : (Jvm.Cond.fieldLink "RightTurns$Choices" (47 : Nat) "RightTurns$Town" "leftTurns" "[I") ∈ zGW := zw (zt1 (i := 115) rfl) rfl
set_option maxRecDepth 10000 in
theorem zwd116 : (Jvm.Cond.fieldLink "RightTurns" (260 : Nat) "RightTurns$Town" "leftTurns" "[I") ∈ zGW := zw (zt1 (i := 116) rfl) rfl
set_option maxRecDepth 10000 in
theorem zwd156 : (Jvm.Cond.arrayClass Jvm.ClassFile.FieldType.int) ∈ zGW := zw (zt1 (i := 156) rfl) rfl
set_option maxRecDepth 10000 in
theorem zwd157 : (Jvm.Cond.arrayClass Jvm.ClassFile.FieldType.long) ∈ zGW := zw (zt1 (i := 157) rfl) rfl
set_option maxRecDepth 10000 in
theorem zwd158 : (Jvm.Cond.classLink "RightTurns" (30 : Nat) "RightTurns$Reader") ∈ zGW := zw (zt1 (i := 158) rfl) rfl
set_option maxRecDepth 10000 in
theorem zwd159 : (Jvm.Cond.instantiable "RightTurns$Reader" (6 : Nat)) ∈ zGW := zw (zt1 (i := 159) rfl) rfl
set_option maxRecDepth 10000 in
theorem zwd161 : (Jvm.Cond.instanceMethod ({ cls := "RightTurns$Reader", name := "<init>", desc := "()V" } : Jvm.MethodName)) ∈ zGW := zw (zt1 (i := 161) rfl) rfl
set_option maxRecDepth 10000 in
theorem zwd162 : (Jvm.Cond.code ({ cls := "RightTurns$Reader", name := "<init>", desc := "()V" } : Jvm.MethodName) prog_7_method_1_code (1 : Nat) (Option.none : Option Jvm.ClassFile.FieldType)) ∈ zGW := zw (zt1 (i := 162) rfl) rfl
set_option maxRecDepth 10000 in
theorem zwd163 : (Jvm.Cond.methodLink "RightTurns$Reader" (3 : Nat) ({ cls := "java/lang/Object", name := "<init>", desc := "()V" } : Jvm.MethodName)) ∈ zGW := zw (zt1 (i := 163) rfl) rfl
set_option maxRecDepth 10000 in
theorem zwd164 : (Jvm.Cond.fieldLink "RightTurns$Reader" (9 : Nat) "RightTurns$Reader" "fault" "I") ∈ zGW := zw (zt1 (i := 164) rfl) rfl
set_option maxRecDepth 10000 in
theorem zwd165 : (Jvm.Cond.fieldLink "RightTurns" (111 : Nat) "RightTurns$Reader" "fault" "I") ∈ zGW := zw (zt1 (i := 165) rfl) rfl
set_option maxRecDepth 10000 in
theorem zwd166 : (Jvm.Cond.fieldLink "RightTurns$Reader" (15 : Nat) "RightTurns$Reader" "place" "I") ∈ zGW := zw (zt1 (i := 166) rfl) rfl
set_option maxRecDepth 10000 in
theorem zwd167 : (Jvm.Cond.fieldLink "RightTurns" (108 : Nat) "RightTurns$Reader" "place" "I") ∈ zGW := zw (zt1 (i := 167) rfl) rfl
set_option maxRecDepth 10000 in
theorem zwd168 : (Jvm.Cond.fieldLink "RightTurns$Reader" (18 : Nat) "RightTurns$Reader" "text" "[I") ∈ zGW := zw (zt1 (i := 168) rfl) rfl
set_option maxRecDepth 10000 in
theorem zwd169 : (Jvm.Cond.fieldLink "RightTurns$Reader" (22 : Nat) "RightTurns$Reader" "size" "I") ∈ zGW := zw (zt1 (i := 169) rfl) rfl
set_option maxRecDepth 10000 in
theorem zwd170 : (Jvm.Cond.fieldLink "RightTurns$Reader" (25 : Nat) "RightTurns$Reader" "at" "I") ∈ zGW := zw (zt1 (i := 170) rfl) rfl
set_option maxRecDepth 10000 in
theorem zwd171 : (Jvm.Cond.fieldLink "RightTurns$Reader" (28 : Nat) "RightTurns$Reader" "numberPlace" "I") ∈ zGW := zw (zt1 (i := 171) rfl) rfl
set_option maxRecDepth 10000 in
theorem zwd185 : (Jvm.Cond.classLink "RightTurns" (37 : Nat) "RightTurns$Changes") ∈ zGW := zw (zt1 (i := 185) rfl) rfl
set_option maxRecDepth 10000 in
theorem zwd186 : (Jvm.Cond.instantiable "RightTurns$Changes" (4 : Nat)) ∈ zGW := zw (zt1 (i := 186) rfl) rfl
set_option maxRecDepth 10000 in
theorem zwd188 : (Jvm.Cond.instanceMethod ({ cls := "RightTurns$Changes", name := "<init>", desc := "()V" } : Jvm.MethodName)) ∈ zGW := zw (zt1 (i := 188) rfl) rfl
set_option maxRecDepth 10000 in
theorem zwd189 : (Jvm.Cond.code ({ cls := "RightTurns$Changes", name := "<init>", desc := "()V" } : Jvm.MethodName) prog_2_method_1_code (1 : Nat) (Option.none : Option Jvm.ClassFile.FieldType)) ∈ zGW := zw (zt1 (i := 189) rfl) rfl
set_option maxRecDepth 10000 in
theorem zwd190 : (Jvm.Cond.methodLink "RightTurns$Changes" (3 : Nat) ({ cls := "java/lang/Object", name := "<init>", desc := "()V" } : Jvm.MethodName)) ∈ zGW := zw (zt1 (i := 190) rfl) rfl
set_option maxRecDepth 10000 in
theorem zwd191 : (Jvm.Cond.fieldLink "RightTurns$Changes" (9 : Nat) "RightTurns$Changes" "time" "I") ∈ zGW := zw (zt1 (i := 191) rfl) rfl
set_option maxRecDepth 10000 in
theorem zwd192 : (Jvm.Cond.fieldLink "RightTurns$Images" (25 : Nat) "RightTurns$Changes" "time" "I") ∈ zGW := zw (zt1 (i := 192) rfl) rfl
set_option maxRecDepth 10000 in
theorem zwd193 : (Jvm.Cond.fieldLink "RightTurns" (114 : Nat) "RightTurns$Changes" "time" "I") ∈ zGW := zw (zt1 (i := 193) rfl) rfl
set_option maxRecDepth 10000 in
theorem zwd194 : (Jvm.Cond.fieldLink "RightTurns$Changes" (15 : Nat) "RightTurns$Changes" "kinds" "[I") ∈ zGW := zw (zt1 (i := 194) rfl) rfl
set_option maxRecDepth 10000 in
theorem zwd195 : (Jvm.Cond.fieldLink "RightTurns$Changes" (19 : Nat) "RightTurns$Changes" "first" "[I") ∈ zGW := zw (zt1 (i := 195) rfl) rfl
set_option maxRecDepth 10000 in
theorem zwd196 : (Jvm.Cond.fieldLink "RightTurns$Changes" (22 : Nat) "RightTurns$Changes" "second" "[I") ∈ zGW := zw (zt1 (i := 196) rfl) rfl
set_option maxRecDepth 10000 in
theorem zwd206 : (Jvm.Cond.classLink "RightTurns" (44 : Nat) "RightTurns$Rules") ∈ zGW := zw (zt1 (i := 206) rfl) rfl
set_option maxRecDepth 10000 in
theorem zwd207 : (Jvm.Cond.instantiable "RightTurns$Rules" (3 : Nat)) ∈ zGW := zw (zt1 (i := 207) rfl) rfl
set_option maxRecDepth 10000 in
theorem zwd209 : (Jvm.Cond.instanceMethod ({ cls := "RightTurns$Rules", name := "<init>", desc := "()V" } : Jvm.MethodName)) ∈ zGW := zw (zt1 (i := 209) rfl) rfl
set_option maxRecDepth 10000 in
theorem zwd210 : (Jvm.Cond.code ({ cls := "RightTurns$Rules", name := "<init>", desc := "()V" } : Jvm.MethodName) prog_9_method_1_code (1 : Nat) (Option.none : Option Jvm.ClassFile.FieldType)) ∈ zGW := zw (zt1 (i := 210) rfl) rfl
set_option maxRecDepth 10000 in
theorem zwd211 : (Jvm.Cond.methodLink "RightTurns$Rules" (3 : Nat) ({ cls := "java/lang/Object", name := "<init>", desc := "()V" } : Jvm.MethodName)) ∈ zGW := zw (zt1 (i := 211) rfl) rfl
set_option maxRecDepth 10000 in
theorem zwd212 : (Jvm.Cond.fieldLink "RightTurns$Rules" (9 : Nat) "RightTurns$Rules" "signs" "[J") ∈ zGW := zw (zt1 (i := 212) rfl) rfl
set_option maxRecDepth 10000 in
theorem zwd213 : (Jvm.Cond.fieldLink "RightTurns$Rules" (15 : Nat) "RightTurns$Rules" "allowed" "[J") ∈ zGW := zw (zt1 (i := 213) rfl) rfl
set_option maxRecDepth 10000 in
theorem zwd214 : (Jvm.Cond.fieldLink "RightTurns$Rules" (18 : Nat) "RightTurns$Rules" "next" "[J") ∈ zGW := zw (zt1 (i := 214) rfl) rfl
set_option maxRecDepth 10000 in
theorem zwd215 : (Jvm.Cond.fieldLink "RightTurns$Choices" (60 : Nat) "RightTurns$Rules" "next" "[J") ∈ zGW := zw (zt1 (i := 215) rfl) rfl
set_option maxRecDepth 10000 in
theorem zwd216 : (Jvm.Cond.fieldLink "RightTurns" (176 : Nat) "RightTurns$Rules" "next" "[J") ∈ zGW := zw (zt1 (i := 216) rfl) rfl
set_option maxRecDepth 10000 in
theorem zwd224 : (Jvm.Cond.classLink "RightTurns" (51 : Nat) "RightTurns$Routes") ∈ zGW := zw (zt1 (i := 224) rfl) rfl
set_option maxRecDepth 10000 in
theorem zwd225 : (Jvm.Cond.instantiable "RightTurns$Routes" (3 : Nat)) ∈ zGW := zw (zt1 (i := 225) rfl) rfl
set_option maxRecDepth 10000 in
theorem zwd227 : (Jvm.Cond.instanceMethod ({ cls := "RightTurns$Routes", name := "<init>", desc := "()V" } : Jvm.MethodName)) ∈ zGW := zw (zt1 (i := 227) rfl) rfl
set_option maxRecDepth 10000 in
theorem zwd228 : (Jvm.Cond.code ({ cls := "RightTurns$Routes", name := "<init>", desc := "()V" } : Jvm.MethodName) prog_8_method_1_code (1 : Nat) (Option.none : Option Jvm.ClassFile.FieldType)) ∈ zGW := zw (zt1 (i := 228) rfl) rfl
set_option maxRecDepth 10000 in
theorem zwd229 : (Jvm.Cond.methodLink "RightTurns$Routes" (3 : Nat) ({ cls := "java/lang/Object", name := "<init>", desc := "()V" } : Jvm.MethodName)) ∈ zGW := zw (zt1 (i := 229) rfl) rfl
set_option maxRecDepth 10000 in
theorem zwd230 : (Jvm.Cond.fieldLink "RightTurns$Routes" (9 : Nat) "RightTurns$Routes" "path" "[I") ∈ zGW := zw (zt1 (i := 230) rfl) rfl
set_option maxRecDepth 10000 in
theorem zwd231 : (Jvm.Cond.fieldLink "RightTurns$Traffic" (61 : Nat) "RightTurns$Routes" "path" "[I") ∈ zGW := zw (zt1 (i := 231) rfl) rfl
set_option maxRecDepth 10000 in
theorem zwd232 : (Jvm.Cond.fieldLink "RightTurns" (214 : Nat) "RightTurns$Routes" "path" "[I") ∈ zGW := zw (zt1 (i := 232) rfl) rfl
set_option maxRecDepth 10000 in
theorem zwd233 : (Jvm.Cond.fieldLink "RightTurns$Routes" (15 : Nat) "RightTurns$Routes" "ahead" "[I") ∈ zGW := zw (zt1 (i := 233) rfl) rfl
set_option maxRecDepth 10000 in
theorem zwd234 : (Jvm.Cond.fieldLink "RightTurns$Routes" (18 : Nat) "RightTurns$Routes" "goal" "I") ∈ zGW := zw (zt1 (i := 234) rfl) rfl
set_option maxRecDepth 10000 in
theorem zwd242 : (Jvm.Cond.classLink "RightTurns" (58 : Nat) "RightTurns$Choices") ∈ zGW := zw (zt2 (i := 2) rfl) rfl
set_option maxRecDepth 10000 in
theorem zwd243 : (Jvm.Cond.instantiable "RightTurns$Choices" (7 : Nat)) ∈ zGW := zw (zt2 (i := 3) rfl) rfl
set_option maxRecDepth 10000 in
theorem zwd245 : (Jvm.Cond.instanceMethod ({ cls := "RightTurns$Choices", name := "<init>", desc := "()V" } : Jvm.MethodName)) ∈ zGW := zw (zt2 (i := 5) rfl) rfl
set_option maxRecDepth 10000 in
theorem zwd246 : (Jvm.Cond.code ({ cls := "RightTurns$Choices", name := "<init>", desc := "()V" } : Jvm.MethodName) prog_3_method_1_code (1 : Nat) (Option.none : Option Jvm.ClassFile.FieldType)) ∈ zGW := zw (zt2 (i := 6) rfl) rfl
set_option maxRecDepth 10000 in
theorem zwd247 : (Jvm.Cond.methodLink "RightTurns$Choices" (3 : Nat) ({ cls := "java/lang/Object", name := "<init>", desc := "()V" } : Jvm.MethodName)) ∈ zGW := zw (zt2 (i := 7) rfl) rfl
set_option maxRecDepth 10000 in
theorem zwd248 : (Jvm.Cond.fieldLink "RightTurns$Choices" (9 : Nat) "RightTurns$Choices" "many" "I") ∈ zGW := zw (zt2 (i := 8) rfl) rfl
set_option maxRecDepth 10000 in
theorem zwd249 : (Jvm.Cond.fieldLink "RightTurns" (267 : Nat) "RightTurns$Choices" "many" "I") ∈ zGW := zw (zt2 (i := 9) rfl) rfl
set_option maxRecDepth 10000 in
theorem zwd250 : (Jvm.Cond.fieldLink "RightTurns$Choices" (15 : Nat) "RightTurns$Choices" "bestSum" "I") ∈ zGW := zw (zt2 (i := 10) rfl) rfl
set_option maxRecDepth 10000 in
theorem zwd251 : (Jvm.Cond.fieldLink "RightTurns" (282 : Nat) "RightTurns$Choices" "bestSum" "I") ∈ zGW := zw (zt2 (i := 11) rfl) rfl
set_option maxRecDepth 10000 in
theorem zwd252 : (Jvm.Cond.fieldLink "RightTurns$Choices" (18 : Nat) "RightTurns$Choices" "bestBits" "I") ∈ zGW := zw (zt2 (i := 12) rfl) rfl
set_option maxRecDepth 10000 in
theorem zwd253 : (Jvm.Cond.fieldLink "RightTurns" (285 : Nat) "RightTurns$Choices" "bestBits" "I") ∈ zGW := zw (zt2 (i := 13) rfl) rfl
set_option maxRecDepth 10000 in
theorem zwd254 : (Jvm.Cond.fieldLink "RightTurns$Choices" (21 : Nat) "RightTurns$Choices" "cost" "[I") ∈ zGW := zw (zt2 (i := 14) rfl) rfl
set_option maxRecDepth 10000 in
theorem zwd255 : (Jvm.Cond.fieldLink "RightTurns" (270 : Nat) "RightTurns$Choices" "cost" "[I") ∈ zGW := zw (zt2 (i := 15) rfl) rfl
set_option maxRecDepth 10000 in
theorem zwd256 : (Jvm.Cond.fieldLink "RightTurns$Choices" (25 : Nat) "RightTurns$Choices" "numbers" "[I") ∈ zGW := zw (zt2 (i := 16) rfl) rfl
set_option maxRecDepth 10000 in
theorem zwd257 : (Jvm.Cond.fieldLink "RightTurns$Choices" (28 : Nat) "RightTurns$Choices" "next" "[J") ∈ zGW := zw (zt2 (i := 17) rfl) rfl
set_option maxRecDepth 10000 in
theorem zwd258 : (Jvm.Cond.fieldLink "RightTurns$Choices" (32 : Nat) "RightTurns$Choices" "suspect" "I") ∈ zGW := zw (zt2 (i := 18) rfl) rfl
set_option maxRecDepth 10000 in
theorem zwd274 : (Jvm.Cond.classLink "RightTurns" (65 : Nat) "RightTurns$Post") ∈ zGW := zw (zt2 (i := 34) rfl) rfl
set_option maxRecDepth 10000 in
theorem zwd275 : (Jvm.Cond.instantiable "RightTurns$Post" (7 : Nat)) ∈ zGW := zw (zt2 (i := 35) rfl) rfl
set_option maxRecDepth 10000 in
theorem zwd277 : (Jvm.Cond.instanceMethod ({ cls := "RightTurns$Post", name := "<init>", desc := "()V" } : Jvm.MethodName)) ∈ zGW := zw (zt2 (i := 37) rfl) rfl
set_option maxRecDepth 10000 in
theorem zwd278 : (Jvm.Cond.code ({ cls := "RightTurns$Post", name := "<init>", desc := "()V" } : Jvm.MethodName) prog_5_method_1_code (1 : Nat) (Option.none : Option Jvm.ClassFile.FieldType)) ∈ zGW := zw (zt2 (i := 38) rfl) rfl
set_option maxRecDepth 10000 in
theorem zwd279 : (Jvm.Cond.methodLink "RightTurns$Post" (3 : Nat) ({ cls := "java/lang/Object", name := "<init>", desc := "()V" } : Jvm.MethodName)) ∈ zGW := zw (zt2 (i := 39) rfl) rfl
set_option maxRecDepth 10000 in
theorem zwd280 : (Jvm.Cond.fieldLink "RightTurns$Post" (9 : Nat) "RightTurns$Post" "between" "[I") ∈ zGW := zw (zt2 (i := 40) rfl) rfl
set_option maxRecDepth 10000 in
theorem zwd281 : (Jvm.Cond.fieldLink "RightTurns$Post" (15 : Nat) "RightTurns$Post" "best" "[I") ∈ zGW := zw (zt2 (i := 41) rfl) rfl
set_option maxRecDepth 10000 in
theorem zwd282 : (Jvm.Cond.fieldLink "RightTurns$Post" (18 : Nat) "RightTurns$Post" "stops" "[I") ∈ zGW := zw (zt2 (i := 42) rfl) rfl
set_option maxRecDepth 10000 in
theorem zwd283 : (Jvm.Cond.fieldLink "RightTurns$Post" (21 : Nat) "RightTurns$Post" "stopsMany" "I") ∈ zGW := zw (zt2 (i := 43) rfl) rfl
set_option maxRecDepth 10000 in
theorem zwd284 : (Jvm.Cond.fieldLink "RightTurns$Post" (25 : Nat) "RightTurns$Post" "ending" "[I") ∈ zGW := zw (zt2 (i := 44) rfl) rfl
set_option maxRecDepth 10000 in
theorem zwd285 : (Jvm.Cond.fieldLink "RightTurns$Post" (28 : Nat) "RightTurns$Post" "stopOf" "[I") ∈ zGW := zw (zt2 (i := 45) rfl) rfl
set_option maxRecDepth 10000 in
theorem zwd286 : (Jvm.Cond.fieldLink "RightTurns$Post" (31 : Nat) "RightTurns$Post" "endingMany" "I") ∈ zGW := zw (zt2 (i := 46) rfl) rfl
set_option maxRecDepth 10000 in
theorem zwd302 : (Jvm.Cond.classLink "RightTurns" (72 : Nat) "RightTurns$Traffic") ∈ zGW := zw (zt2 (i := 62) rfl) rfl
set_option maxRecDepth 10000 in
theorem zwd303 : (Jvm.Cond.instantiable "RightTurns$Traffic" (10 : Nat)) ∈ zGW := zw (zt2 (i := 63) rfl) rfl
set_option maxRecDepth 10000 in
theorem zwd305 : (Jvm.Cond.instanceMethod ({ cls := "RightTurns$Traffic", name := "<init>", desc := "()V" } : Jvm.MethodName)) ∈ zGW := zw (zt2 (i := 65) rfl) rfl
set_option maxRecDepth 10000 in
theorem zwd306 : (Jvm.Cond.code ({ cls := "RightTurns$Traffic", name := "<init>", desc := "()V" } : Jvm.MethodName) prog_12_method_1_code (1 : Nat) (Option.none : Option Jvm.ClassFile.FieldType)) ∈ zGW := zw (zt2 (i := 66) rfl) rfl
set_option maxRecDepth 10000 in
theorem zwd307 : (Jvm.Cond.methodLink "RightTurns$Traffic" (3 : Nat) ({ cls := "java/lang/Object", name := "<init>", desc := "()V" } : Jvm.MethodName)) ∈ zGW := zw (zt2 (i := 67) rfl) rfl
set_option maxRecDepth 10000 in
theorem zwd308 : (Jvm.Cond.fieldLink "RightTurns$Traffic" (9 : Nat) "RightTurns$Traffic" "rounds" "I") ∈ zGW := zw (zt2 (i := 68) rfl) rfl
set_option maxRecDepth 10000 in
theorem zwd309 : (Jvm.Cond.fieldLink "RightTurns" (310 : Nat) "RightTurns$Traffic" "rounds" "I") ∈ zGW := zw (zt2 (i := 69) rfl) rfl
set_option maxRecDepth 10000 in
theorem zwd310 : (Jvm.Cond.fieldLink "RightTurns$Traffic" (15 : Nat) "RightTurns$Traffic" "homeIn" "[I") ∈ zGW := zw (zt2 (i := 70) rfl) rfl
set_option maxRecDepth 10000 in
theorem zwd311 : (Jvm.Cond.fieldLink "RightTurns" (307 : Nat) "RightTurns$Traffic" "homeIn" "[I") ∈ zGW := zw (zt2 (i := 71) rfl) rfl
set_option maxRecDepth 10000 in
theorem zwd312 : (Jvm.Cond.fieldLink "RightTurns$Traffic" (19 : Nat) "RightTurns$Traffic" "passed" "[I") ∈ zGW := zw (zt2 (i := 72) rfl) rfl
set_option maxRecDepth 10000 in
theorem zwd313 : (Jvm.Cond.fieldLink "RightTurns" (357 : Nat) "RightTurns$Traffic" "passed" "[I") ∈ zGW := zw (zt2 (i := 73) rfl) rfl
set_option maxRecDepth 10000 in
theorem zwd314 : (Jvm.Cond.fieldLink "RightTurns$Traffic" (22 : Nat) "RightTurns$Traffic" "ways" "[I") ∈ zGW := zw (zt2 (i := 74) rfl) rfl
set_option maxRecDepth 10000 in
theorem zwd315 : (Jvm.Cond.fieldLink "RightTurns$Traffic" (25 : Nat) "RightTurns$Traffic" "steps" "[I") ∈ zGW := zw (zt2 (i := 75) rfl) rfl
set_option maxRecDepth 10000 in
theorem zwd316 : (Jvm.Cond.fieldLink "RightTurns$Traffic" (28 : Nat) "RightTurns$Traffic" "onStep" "[I") ∈ zGW := zw (zt2 (i := 76) rfl) rfl
set_option maxRecDepth 10000 in
theorem zwd317 : (Jvm.Cond.fieldLink "RightTurns$Traffic" (31 : Nat) "RightTurns$Traffic" "toGo" "[I") ∈ zGW := zw (zt2 (i := 77) rfl) rfl
set_option maxRecDepth 10000 in
theorem zwd318 : (Jvm.Cond.fieldLink "RightTurns$Traffic" (34 : Nat) "RightTurns$Traffic" "came" "[I") ∈ zGW := zw (zt2 (i := 78) rfl) rfl
set_option maxRecDepth 10000 in
theorem zwd319 : (Jvm.Cond.fieldLink "RightTurns$Traffic" (37 : Nat) "RightTurns$Traffic" "waits" "[I") ∈ zGW := zw (zt2 (i := 79) rfl) rfl
set_option maxRecDepth 10000 in
theorem zwd320 : (Jvm.Cond.fieldLink "RightTurns$Traffic" (40 : Nat) "RightTurns$Traffic" "firstAt" "[I") ∈ zGW := zw (zt2 (i := 80) rfl) rfl
set_option maxRecDepth 10000 in
theorem zwd342 : (Jvm.Cond.classLink "RightTurns" (79 : Nat) "RightTurns$Story") ∈ zGW := zw (zt2 (i := 102) rfl) rfl
set_option maxRecDepth 10000 in
theorem zwd343 : (Jvm.Cond.instantiable "RightTurns$Story" (6 : Nat)) ∈ zGW := zw (zt2 (i := 103) rfl) rfl
set_option maxRecDepth 10000 in
theorem zwd345 : (Jvm.Cond.instanceMethod ({ cls := "RightTurns$Story", name := "<init>", desc := "()V" } : Jvm.MethodName)) ∈ zGW := zw (zt2 (i := 105) rfl) rfl
set_option maxRecDepth 10000 in
theorem zwd346 : (Jvm.Cond.code ({ cls := "RightTurns$Story", name := "<init>", desc := "()V" } : Jvm.MethodName) prog_10_method_1_code (1 : Nat) (Option.none : Option Jvm.ClassFile.FieldType)) ∈ zGW := zw (zt2 (i := 106) rfl) rfl
set_option maxRecDepth 10000 in
theorem zwd347 : (Jvm.Cond.methodLink "RightTurns$Story" (3 : Nat) ({ cls := "java/lang/Object", name := "<init>", desc := "()V" } : Jvm.MethodName)) ∈ zGW := zw (zt2 (i := 107) rfl) rfl
set_option maxRecDepth 10000 in
theorem zwd348 : (Jvm.Cond.fieldLink "RightTurns$Story" (9 : Nat) "RightTurns$Story" "told" "I") ∈ zGW := zw (zt2 (i := 108) rfl) rfl
set_option maxRecDepth 10000 in
theorem zwd349 : (Jvm.Cond.fieldLink "RightTurns$Images" (30 : Nat) "RightTurns$Story" "told" "I") ∈ zGW := zw (zt2 (i := 109) rfl) rfl
set_option maxRecDepth 10000 in
theorem zwd350 : (Jvm.Cond.fieldLink "RightTurns" (117 : Nat) "RightTurns$Story" "told" "I") ∈ zGW := zw (zt2 (i := 110) rfl) rfl
set_option maxRecDepth 10000 in
theorem zwd351 : (Jvm.Cond.fieldLink "RightTurns$Story" (15 : Nat) "RightTurns$Story" "corners" "[I") ∈ zGW := zw (zt2 (i := 111) rfl) rfl
set_option maxRecDepth 10000 in
theorem zwd352 : (Jvm.Cond.fieldLink "RightTurns$Images" (35 : Nat) "RightTurns$Story" "corners" "[I") ∈ zGW := zw (zt2 (i := 112) rfl) rfl
set_option maxRecDepth 10000 in
theorem zwd353 : (Jvm.Cond.fieldLink "RightTurns$Story" (19 : Nat) "RightTurns$Story" "few" "[I") ∈ zGW := zw (zt2 (i := 113) rfl) rfl
set_option maxRecDepth 10000 in
theorem zwd354 : (Jvm.Cond.fieldLink "RightTurns$Story" (22 : Nat) "RightTurns$Story" "ways" "[J") ∈ zGW := zw (zt2 (i := 114) rfl) rfl
set_option maxRecDepth 10000 in
theorem zwd355 : (Jvm.Cond.fieldLink "RightTurns$Story" (26 : Nat) "RightTurns$Story" "broken" "[I") ∈ zGW := zw (zt2 (i := 115) rfl) rfl
set_option maxRecDepth 10000 in
theorem zwd356 : (Jvm.Cond.fieldLink "RightTurns$Story" (29 : Nat) "RightTurns$Story" "brokenMany" "I") ∈ zGW := zw (zt2 (i := 116) rfl) rfl
set_option maxRecDepth 10000 in
theorem zwd370 : (Jvm.Cond.classLink "RightTurns" (86 : Nat) "RightTurns$Images") ∈ zGW := zw (zt2 (i := 130) rfl) rfl
set_option maxRecDepth 10000 in
theorem zwd371 : (Jvm.Cond.instantiable "RightTurns$Images" (4 : Nat)) ∈ zGW := zw (zt2 (i := 131) rfl) rfl
set_option maxRecDepth 10000 in
theorem zwd373 : (Jvm.Cond.instanceMethod ({ cls := "RightTurns$Images", name := "<init>", desc := "()V" } : Jvm.MethodName)) ∈ zGW := zw (zt2 (i := 133) rfl) rfl
set_option maxRecDepth 10000 in
theorem zwd374 : (Jvm.Cond.code ({ cls := "RightTurns$Images", name := "<init>", desc := "()V" } : Jvm.MethodName) prog_4_method_1_code (1 : Nat) (Option.none : Option Jvm.ClassFile.FieldType)) ∈ zGW := zw (zt2 (i := 134) rfl) rfl
set_option maxRecDepth 10000 in
theorem zwd375 : (Jvm.Cond.methodLink "RightTurns$Images" (3 : Nat) ({ cls := "java/lang/Object", name := "<init>", desc := "()V" } : Jvm.MethodName)) ∈ zGW := zw (zt2 (i := 135) rfl) rfl
set_option maxRecDepth 10000 in
theorem zwd376 : (Jvm.Cond.fieldLink "RightTurns$Images" (9 : Nat) "RightTurns$Images" "kept" "I") ∈ zGW := zw (zt2 (i := 136) rfl) rfl
set_option maxRecDepth 10000 in
theorem zwd377 : (Jvm.Cond.fieldLink "RightTurns" (120 : Nat) "RightTurns$Images" "kept" "I") ∈ zGW := zw (zt2 (i := 137) rfl) rfl
set_option maxRecDepth 10000 in
theorem zwd378 : (Jvm.Cond.fieldLink "RightTurns$Images" (15 : Nat) "RightTurns$Images" "times" "[I") ∈ zGW := zw (zt2 (i := 138) rfl) rfl
set_option maxRecDepth 10000 in
theorem zwd379 : (Jvm.Cond.fieldLink "RightTurns$Images" (19 : Nat) "RightTurns$Images" "toldMany" "[I") ∈ zGW := zw (zt2 (i := 139) rfl) rfl
set_option maxRecDepth 10000 in
theorem zwd380 : (Jvm.Cond.fieldLink "RightTurns$Images" (22 : Nat) "RightTurns$Images" "toldCorners" "[I") ∈ zGW := zw (zt2 (i := 140) rfl) rfl
set_option maxRecDepth 10000 in
theorem zwd390 : (Jvm.Cond.fieldLink "RightTurns" (9 : Nat) "RightTurns" "tape" "[I") ∈ zGW := zw (zt2 (i := 150) rfl) rfl
set_option maxRecDepth 10000 in
theorem zwd391 : (Jvm.Cond.fieldLink "RightTurns" (13 : Nat) "RightTurns" "tapeBytes" "I") ∈ zGW := zw (zt2 (i := 151) rfl) rfl
set_option maxRecDepth 10000 in
theorem zwd392 : (Jvm.Cond.fieldLink "RightTurns" (17 : Nat) "RightTurns" "faultPlace" "I") ∈ zGW := zw (zt2 (i := 152) rfl) rfl
set_option maxRecDepth 10000 in
theorem zwd393 : (Jvm.Cond.fieldLink "RightTurns" (23 : Nat) "RightTurns" "current" "LRightTurns$Town;") ∈ zGW := zw (zt2 (i := 153) rfl) rfl
set_option maxRecDepth 10000 in
theorem zwd394 : (Jvm.Cond.fieldLink "RightTurns" (27 : Nat) "RightTurns" "spare" "LRightTurns$Town;") ∈ zGW := zw (zt2 (i := 154) rfl) rfl
set_option maxRecDepth 10000 in
theorem zwd395 : (Jvm.Cond.fieldLink "RightTurns" (33 : Nat) "RightTurns" "reader" "LRightTurns$Reader;") ∈ zGW := zw (zt2 (i := 155) rfl) rfl
set_option maxRecDepth 10000 in
theorem zwd396 : (Jvm.Cond.fieldLink "RightTurns" (40 : Nat) "RightTurns" "changes" "LRightTurns$Changes;") ∈ zGW := zw (zt2 (i := 156) rfl) rfl
set_option maxRecDepth 10000 in
theorem zwd397 : (Jvm.Cond.fieldLink "RightTurns" (47 : Nat) "RightTurns" "rules" "LRightTurns$Rules;") ∈ zGW := zw (zt2 (i := 157) rfl) rfl
set_option maxRecDepth 10000 in
theorem zwd398 : (Jvm.Cond.fieldLink "RightTurns" (54 : Nat) "RightTurns" "routes" "LRightTurns$Routes;") ∈ zGW := zw (zt2 (i := 158) rfl) rfl
set_option maxRecDepth 10000 in
theorem zwd399 : (Jvm.Cond.fieldLink "RightTurns" (61 : Nat) "RightTurns" "choices" "LRightTurns$Choices;") ∈ zGW := zw (zt2 (i := 159) rfl) rfl
set_option maxRecDepth 10000 in
theorem zwd400 : (Jvm.Cond.fieldLink "RightTurns" (68 : Nat) "RightTurns" "post" "LRightTurns$Post;") ∈ zGW := zw (zt2 (i := 160) rfl) rfl
set_option maxRecDepth 10000 in
theorem zwd401 : (Jvm.Cond.fieldLink "RightTurns" (75 : Nat) "RightTurns" "riding" "LRightTurns$Traffic;") ∈ zGW := zw (zt2 (i := 161) rfl) rfl
set_option maxRecDepth 10000 in
theorem zwd402 : (Jvm.Cond.fieldLink "RightTurns" (82 : Nat) "RightTurns" "story" "LRightTurns$Story;") ∈ zGW := zw (zt2 (i := 162) rfl) rfl
set_option maxRecDepth 10000 in
theorem zwd403 : (Jvm.Cond.fieldLink "RightTurns" (89 : Nat) "RightTurns" "images" "LRightTurns$Images;") ∈ zGW := zw (zt2 (i := 163) rfl) rfl
set_option maxRecDepth 10000 in
theorem zwd433 : (Jvm.Cond.methodLink "RightTurnsLaw" (124 : Nat) ({ cls := "RightTurns", name := "feed", desc := "(IIIII)I" } : Jvm.MethodName)) ∈ zGW := zw (zt2 (i := 193) rfl) rfl
set_option maxRecDepth 10000 in
theorem zwd434 : (Jvm.Cond.instanceMethod ({ cls := "RightTurns", name := "feed", desc := "(IIIII)I" } : Jvm.MethodName)) ∈ zGW := zw (zt2 (i := 194) rfl) rfl
set_option maxRecDepth 10000 in
theorem zwd435 : (Jvm.Cond.selects "RightTurns" ({ cls := "RightTurns", name := "feed", desc := "(IIIII)I" } : Jvm.MethodName) ({ cls := "RightTurns", name := "feed", desc := "(IIIII)I" } : Jvm.MethodName)) ∈ zGW := zw (zt2 (i := 195) rfl) rfl
set_option maxRecDepth 10000 in
theorem zwd436 : (Jvm.Cond.code ({ cls := "RightTurns", name := "feed", desc := "(IIIII)I" } : Jvm.MethodName) prog_1_method_2_code (6 : Nat) (Option.some Jvm.ClassFile.FieldType.int)) ∈ zGW := zw (zt2 (i := 196) rfl) rfl
set_option maxRecDepth 10000 in
theorem zwd437 : (Jvm.Cond.methodLink "RightTurns" (93 : Nat) ({ cls := "RightTurns", name := "putNumber", desc := "(I)V" } : Jvm.MethodName)) ∈ zGW := zw (zt2 (i := 197) rfl) rfl
set_option maxRecDepth 10000 in
theorem zwd439 : (Jvm.Cond.instanceMethod ({ cls := "RightTurns", name := "putNumber", desc := "(I)V" } : Jvm.MethodName)) ∈ zGW := zw (zt2 (i := 199) rfl) rfl
set_option maxRecDepth 10000 in
theorem zwd440 : (Jvm.Cond.code ({ cls := "RightTurns", name := "putNumber", desc := "(I)V" } : Jvm.MethodName) prog_1_method_41_code (3 : Nat) (Option.none : Option Jvm.ClassFile.FieldType)) ∈ zGW := zw (zt2 (i := 200) rfl) rfl
set_option maxRecDepth 10000 in
theorem zwd441 : (Jvm.Cond.methodLink "RightTurnsLaw" (139 : Nat) ({ cls := "RightTurns", name := "fault", desc := "()I" } : Jvm.MethodName)) ∈ zGW := zw (zt2 (i := 201) rfl) rfl
set_option maxRecDepth 10000 in
theorem zwd442 : (Jvm.Cond.instanceMethod ({ cls := "RightTurns", name := "fault", desc := "()I" } : Jvm.MethodName)) ∈ zGW := zw (zt2 (i := 202) rfl) rfl
set_option maxRecDepth 10000 in
theorem zwd443 : (Jvm.Cond.selects "RightTurns" ({ cls := "RightTurns", name := "fault", desc := "()I" } : Jvm.MethodName) ({ cls := "RightTurns", name := "fault", desc := "()I" } : Jvm.MethodName)) ∈ zGW := zw (zt2 (i := 203) rfl) rfl
set_option maxRecDepth 10000 in
theorem zwd444 : (Jvm.Cond.code ({ cls := "RightTurns", name := "fault", desc := "()I" } : Jvm.MethodName) prog_1_method_4_code (1 : Nat) (Option.some Jvm.ClassFile.FieldType.int)) ∈ zGW := zw (zt2 (i := 204) rfl) rfl
set_option maxRecDepth 10000 in
theorem zwd445 : (Jvm.Cond.methodLink "RightTurnsLaw" (193 : Nat) ({ cls := "RightTurns", name := "left", desc := "(I)I" } : Jvm.MethodName)) ∈ zGW := zw (zt2 (i := 205) rfl) rfl
set_option maxRecDepth 10000 in
theorem zwd446 : (Jvm.Cond.instanceMethod ({ cls := "RightTurns", name := "left", desc := "(I)I" } : Jvm.MethodName)) ∈ zGW := zw (zt2 (i := 206) rfl) rfl
set_option maxRecDepth 10000 in
theorem zwd447 : (Jvm.Cond.selects "RightTurns" ({ cls := "RightTurns", name := "left", desc := "(I)I" } : Jvm.MethodName) ({ cls := "RightTurns", name := "left", desc := "(I)I" } : Jvm.MethodName)) ∈ zGW := zw (zt2 (i := 207) rfl) rfl
set_option maxRecDepth 10000 in
theorem zwd448 : (Jvm.Cond.code ({ cls := "RightTurns", name := "left", desc := "(I)I" } : Jvm.MethodName) prog_1_method_20_code (2 : Nat) (Option.some Jvm.ClassFile.FieldType.int)) ∈ zGW := zw (zt2 (i := 208) rfl) rfl
set_option maxRecDepth 10000 in
theorem zwd449 : (Jvm.Cond.methodLink "RightTurnsLaw" (227 : Nat) ({ cls := "RightTurns", name := "forget", desc := "()I" } : Jvm.MethodName)) ∈ zGW := zw (zt2 (i := 209) rfl) rfl
set_option maxRecDepth 10000 in
theorem zwd450 : (Jvm.Cond.instanceMethod ({ cls := "RightTurns", name := "forget", desc := "()I" } : Jvm.MethodName)) ∈ zGW := zw (zt2 (i := 210) rfl) rfl
set_option maxRecDepth 10000 in
theorem zwd451 : (Jvm.Cond.selects "RightTurns" ({ cls := "RightTurns", name := "forget", desc := "()I" } : Jvm.MethodName) ({ cls := "RightTurns", name := "forget", desc := "()I" } : Jvm.MethodName)) ∈ zGW := zw (zt2 (i := 211) rfl) rfl
set_option maxRecDepth 10000 in
theorem zwd452 : (Jvm.Cond.code ({ cls := "RightTurns", name := "forget", desc := "()I" } : Jvm.MethodName) prog_1_method_31_code (2 : Nat) (Option.some Jvm.ClassFile.FieldType.int)) ∈ zGW := zw (zt2 (i := 212) rfl) rfl
set_option maxRecDepth 10000 in
theorem zwd453 : (Jvm.Cond.methodLink "RightTurnsLaw" (249 : Nat) ({ cls := "RightTurns", name := "image", desc := "()I" } : Jvm.MethodName)) ∈ zGW := zw (zt2 (i := 213) rfl) rfl
set_option maxRecDepth 10000 in
theorem zwd454 : (Jvm.Cond.instanceMethod ({ cls := "RightTurns", name := "image", desc := "()I" } : Jvm.MethodName)) ∈ zGW := zw (zt2 (i := 214) rfl) rfl
set_option maxRecDepth 10000 in
theorem zwd455 : (Jvm.Cond.selects "RightTurns" ({ cls := "RightTurns", name := "image", desc := "()I" } : Jvm.MethodName) ({ cls := "RightTurns", name := "image", desc := "()I" } : Jvm.MethodName)) ∈ zGW := zw (zt2 (i := 215) rfl) rfl
set_option maxRecDepth 10000 in
theorem zwd456 : (Jvm.Cond.code ({ cls := "RightTurns", name := "image", desc := "()I" } : Jvm.MethodName) prog_1_method_38_code (1 : Nat) (Option.some Jvm.ClassFile.FieldType.int)) ∈ zGW := zw (zt2 (i := 216) rfl) rfl
set_option maxRecDepth 10000 in
theorem zwd457 : (Jvm.Cond.methodLink "RightTurns" (360 : Nat) ({ cls := "RightTurns$Images", name := "keep", desc := "(LRightTurns$Changes;LRightTurns$Story;)I" } : Jvm.MethodName)) ∈ zGW := zw (zt2 (i := 217) rfl) rfl
set_option maxRecDepth 10000 in
theorem zwd458 : (Jvm.Cond.instanceMethod ({ cls := "RightTurns$Images", name := "keep", desc := "(LRightTurns$Changes;LRightTurns$Story;)I" } : Jvm.MethodName)) ∈ zGW := zw (zt2 (i := 218) rfl) rfl
set_option maxRecDepth 10000 in
theorem zwd459 : (Jvm.Cond.selects "RightTurns$Images" ({ cls := "RightTurns$Images", name := "keep", desc := "(LRightTurns$Changes;LRightTurns$Story;)I" } : Jvm.MethodName) ({ cls := "RightTurns$Images", name := "keep", desc := "(LRightTurns$Changes;LRightTurns$Story;)I" } : Jvm.MethodName)) ∈ zGW := zw (zt2 (i := 219) rfl) rfl
set_option maxRecDepth 10000 in
theorem zwd460 : (Jvm.Cond.code ({ cls := "RightTurns$Images", name := "keep", desc := "(LRightTurns$Changes;LRightTurns$Story;)I" } : Jvm.MethodName) prog_4_method_2_code (3 : Nat) (Option.some Jvm.ClassFile.FieldType.int)) ∈ zGW := zw (zt2 (i := 220) rfl) rfl
set_option maxRecDepth 10000 in
theorem zwd461 : (Jvm.Cond.methodLink "RightTurns$Images" (38 : Nat) ({ cls := "java/lang/System", name := "arraycopy", desc := "(Ljava/lang/Object;ILjava/lang/Object;II)V" } : Jvm.MethodName)) ∈ zGW := zw (zt2 (i := 221) rfl) rfl
set_option maxRecDepth 10000 in
theorem zwd462 : (Jvm.Cond.static ({ cls := "java/lang/System", name := "arraycopy", desc := "(Ljava/lang/Object;ILjava/lang/Object;II)V" } : Jvm.MethodName)) ∈ zGW := zw (zt2 (i := 222) rfl) rfl
set_option maxRecDepth 10000 in
theorem zwd463 : (Jvm.Cond.native ({ cls := "java/lang/System", name := "arraycopy", desc := "(Ljava/lang/Object;ILjava/lang/Object;II)V" } : Jvm.MethodName)) ∈ zGW := zw (zt2 (i := 223) rfl) rfl
set_option maxRecDepth 10000 in
theorem zwd464 : (Jvm.Cond.methodLink "RightTurnsLaw" (253 : Nat) ({ cls := "RightTurns", name := "restore", desc := "()I" } : Jvm.MethodName)) ∈ zGW := zw (zt2 (i := 224) rfl) rfl
set_option maxRecDepth 10000 in
theorem zwd465 : (Jvm.Cond.instanceMethod ({ cls := "RightTurns", name := "restore", desc := "()I" } : Jvm.MethodName)) ∈ zGW := zw (zt2 (i := 225) rfl) rfl
set_option maxRecDepth 10000 in
theorem zwd466 : (Jvm.Cond.selects "RightTurns" ({ cls := "RightTurns", name := "restore", desc := "()I" } : Jvm.MethodName) ({ cls := "RightTurns", name := "restore", desc := "()I" } : Jvm.MethodName)) ∈ zGW := zw (zt2 (i := 226) rfl) rfl
set_option maxRecDepth 10000 in
theorem zwd467 : (Jvm.Cond.code ({ cls := "RightTurns", name := "restore", desc := "()I" } : Jvm.MethodName) prog_1_method_39_code (1 : Nat) (Option.some Jvm.ClassFile.FieldType.int)) ∈ zGW := zw (zt2 (i := 227) rfl) rfl
set_option maxRecDepth 10000 in
theorem zwd468 : (Jvm.Cond.methodLink "RightTurns" (364 : Nat) ({ cls := "RightTurns$Images", name := "bringBack", desc := "(LRightTurns$Changes;LRightTurns$Story;)I" } : Jvm.MethodName)) ∈ zGW := zw (zt2 (i := 228) rfl) rfl
set_option maxRecDepth 10000 in
theorem zwd469 : (Jvm.Cond.instanceMethod ({ cls := "RightTurns$Images", name := "bringBack", desc := "(LRightTurns$Changes;LRightTurns$Story;)I" } : Jvm.MethodName)) ∈ zGW := zw (zt2 (i := 229) rfl) rfl
set_option maxRecDepth 10000 in
theorem zwd470 : (Jvm.Cond.selects "RightTurns$Images" ({ cls := "RightTurns$Images", name := "bringBack", desc := "(LRightTurns$Changes;LRightTurns$Story;)I" } : Jvm.MethodName) ({ cls := "RightTurns$Images", name := "bringBack", desc := "(LRightTurns$Changes;LRightTurns$Story;)I" } : Jvm.MethodName)) ∈ zGW := zw (zt2 (i := 230) rfl) rfl
set_option maxRecDepth 10000 in
theorem zwd471 : (Jvm.Cond.code ({ cls := "RightTurns$Images", name := "bringBack", desc := "(LRightTurns$Changes;LRightTurns$Story;)I" } : Jvm.MethodName) prog_4_method_3_code (3 : Nat) (Option.some Jvm.ClassFile.FieldType.int)) ∈ zGW := zw (zt2 (i := 231) rfl) rfl
set_option maxRecDepth 10000 in
theorem zwd472 : (Jvm.Cond.methodLink "RightTurnsLaw" (257 : Nat) ({ cls := "RightTurns", name := "count", desc := "(I)I" } : Jvm.MethodName)) ∈ zGW := zw (zt2 (i := 232) rfl) rfl
set_option maxRecDepth 10000 in
theorem zwd473 : (Jvm.Cond.instanceMethod ({ cls := "RightTurns", name := "count", desc := "(I)I" } : Jvm.MethodName)) ∈ zGW := zw (zt2 (i := 233) rfl) rfl
set_option maxRecDepth 10000 in
theorem zwd474 : (Jvm.Cond.selects "RightTurns" ({ cls := "RightTurns", name := "count", desc := "(I)I" } : Jvm.MethodName) ({ cls := "RightTurns", name := "count", desc := "(I)I" } : Jvm.MethodName)) ∈ zGW := zw (zt2 (i := 234) rfl) rfl
set_option maxRecDepth 10000 in
theorem zwd475 : (Jvm.Cond.code ({ cls := "RightTurns", name := "count", desc := "(I)I" } : Jvm.MethodName) prog_1_method_40_code (2 : Nat) (Option.some Jvm.ClassFile.FieldType.int)) ∈ zGW := zw (zt2 (i := 235) rfl) rfl
set_option maxRecDepth 10000 in
theorem zwd476 : (Jvm.Cond.methodLink "RightTurnsLaw" (129 : Nat) ({ cls := "RightTurnsLaw", name := "town", desc := "(LRightTurns;I[J)I" } : Jvm.MethodName)) ∈ zGW := zw (zt2 (i := 236) rfl) rfl
set_option maxRecDepth 10000 in
theorem zwd477 : (Jvm.Cond.static ({ cls := "RightTurnsLaw", name := "town", desc := "(LRightTurns;I[J)I" } : Jvm.MethodName)) ∈ zGW := zw (zt2 (i := 237) rfl) rfl
set_option maxRecDepth 10000 in
theorem zwd478 : (Jvm.Cond.codeWith ({ cls := "RightTurnsLaw", name := "town", desc := "(LRightTurns;I[J)I" } : Jvm.MethodName) method_3_code (4 : Nat) (Option.some Jvm.ClassFile.FieldType.int) [((0 : Nat), (9 : Nat), (12 : Nat), (13 : Nat))]) ∈ zGW := zw (zt2 (i := 238) rfl) rfl
set_option maxRecDepth 10000 in
theorem zwd480 : (Jvm.Cond.methodLink "RightTurnsLaw" (7 : Nat) ({ cls := "RightTurns", name := "town", desc := "(I)I" } : Jvm.MethodName)) ∈ zGW := zw (zt3 (i := 0) rfl) rfl
set_option maxRecDepth 10000 in
theorem zwd481 : (Jvm.Cond.instanceMethod ({ cls := "RightTurns", name := "town", desc := "(I)I" } : Jvm.MethodName)) ∈ zGW := zw (zt3 (i := 1) rfl) rfl
set_option maxRecDepth 10000 in
theorem zwd482 : (Jvm.Cond.selects "RightTurns" ({ cls := "RightTurns", name := "town", desc := "(I)I" } : Jvm.MethodName) ({ cls := "RightTurns", name := "town", desc := "(I)I" } : Jvm.MethodName)) ∈ zGW := zw (zt3 (i := 2) rfl) rfl
set_option maxRecDepth 10000 in
theorem zwd483 : (Jvm.Cond.code ({ cls := "RightTurns", name := "town", desc := "(I)I" } : Jvm.MethodName) prog_1_method_3_code (3 : Nat) (Option.some Jvm.ClassFile.FieldType.int)) ∈ zGW := zw (zt3 (i := 3) rfl) rfl
set_option maxRecDepth 10000 in
theorem zwd552 : (Jvm.Cond.methodLink "RightTurns" (104 : Nat) ({ cls := "RightTurns$Reader", name := "readsAll", desc := "([IILRightTurns$Town;)Z" } : Jvm.MethodName)) ∈ zGW := zw (zt3 (i := 72) rfl) rfl
set_option maxRecDepth 10000 in
theorem zwd553 : (Jvm.Cond.instanceMethod ({ cls := "RightTurns$Reader", name := "readsAll", desc := "([IILRightTurns$Town;)Z" } : Jvm.MethodName)) ∈ zGW := zw (zt3 (i := 73) rfl) rfl
set_option maxRecDepth 10000 in
theorem zwd554 : (Jvm.Cond.selects "RightTurns$Reader" ({ cls := "RightTurns$Reader", name := "readsAll", desc := "([IILRightTurns$Town;)Z" } : Jvm.MethodName) ({ cls := "RightTurns$Reader", name := "readsAll", desc := "([IILRightTurns$Town;)Z" } : Jvm.MethodName)) ∈ zGW := zw (zt3 (i := 74) rfl) rfl
set_option maxRecDepth 10000 in
theorem zwd555 : (Jvm.Cond.code ({ cls := "RightTurns$Reader", name := "readsAll", desc := "([IILRightTurns$Town;)Z" } : Jvm.MethodName) prog_7_method_2_code (5 : Nat) (Option.some Jvm.ClassFile.FieldType.boolean)) ∈ zGW := zw (zt3 (i := 75) rfl) rfl
set_option maxRecDepth 10000 in
theorem zwd556 : (Jvm.Cond.methodLink "RightTurns$Reader" (31 : Nat) ({ cls := "java/lang/Math", name := "min", desc := "(II)I" } : Jvm.MethodName)) ∈ zGW := zw (zt3 (i := 76) rfl) rfl
set_option maxRecDepth 10000 in
theorem zwd557 : (Jvm.Cond.static ({ cls := "java/lang/Math", name := "min", desc := "(II)I" } : Jvm.MethodName)) ∈ zGW := zw (zt3 (i := 77) rfl) rfl
set_option maxRecDepth 10000 in
theorem zwd558 : (Jvm.Cond.code ({ cls := "java/lang/Math", name := "min", desc := "(II)I" } : Jvm.MethodName) prog_23_method_69_code (2 : Nat) (Option.some Jvm.ClassFile.FieldType.int)) ∈ zGW := zw (zt3 (i := 78) rfl) rfl
set_option maxRecDepth 10000 in
theorem zwd559 : (Jvm.Cond.methodLink "RightTurns$Reader" (37 : Nat) ({ cls := "RightTurns$Town", name := "clear", desc := "()V" } : Jvm.MethodName)) ∈ zGW := zw (zt3 (i := 79) rfl) rfl
set_option maxRecDepth 10000 in
theorem zwd560 : (Jvm.Cond.instanceMethod ({ cls := "RightTurns$Town", name := "clear", desc := "()V" } : Jvm.MethodName)) ∈ zGW := zw (zt3 (i := 80) rfl) rfl
set_option maxRecDepth 10000 in
theorem zwd561 : (Jvm.Cond.selects "RightTurns$Town" ({ cls := "RightTurns$Town", name := "clear", desc := "()V" } : Jvm.MethodName) ({ cls := "RightTurns$Town", name := "clear", desc := "()V" } : Jvm.MethodName)) ∈ zGW := zw (zt3 (i := 81) rfl) rfl
set_option maxRecDepth 10000 in
theorem zwd562 : (Jvm.Cond.code ({ cls := "RightTurns$Town", name := "clear", desc := "()V" } : Jvm.MethodName) prog_11_method_2_code (1 : Nat) (Option.none : Option Jvm.ClassFile.FieldType)) ∈ zGW := zw (zt3 (i := 82) rfl) rfl
set_option maxRecDepth 10000 in
theorem zwd563 : (Jvm.Cond.methodLink "RightTurns$Town" (72 : Nat) ({ cls := "java/util/Arrays", name := "fill", desc := "([JJ)V" } : Jvm.MethodName)) ∈ zGW := zw (zt3 (i := 83) rfl) rfl
set_option maxRecDepth 10000 in
theorem zwd564 : (Jvm.Cond.static ({ cls := "java/util/Arrays", name := "fill", desc := "([JJ)V" } : Jvm.MethodName)) ∈ zGW := zw (zt3 (i := 84) rfl) rfl
set_option maxRecDepth 10000 in
theorem zwd565 : (Jvm.Cond.code ({ cls := "java/util/Arrays", name := "fill", desc := "([JJ)V" } : Jvm.MethodName) prog_32_method_101_code (5 : Nat) (Option.none : Option Jvm.ClassFile.FieldType)) ∈ zGW := zw (zt3 (i := 85) rfl) rfl
set_option maxRecDepth 10000 in
theorem zwd566 : (Jvm.Cond.methodLink "RightTurns$Reader" (42 : Nat) ({ cls := "RightTurns$Reader", name := "skipBlanks", desc := "()V" } : Jvm.MethodName)) ∈ zGW := zw (zt3 (i := 86) rfl) rfl
set_option maxRecDepth 10000 in
theorem zwd568 : (Jvm.Cond.instanceMethod ({ cls := "RightTurns$Reader", name := "skipBlanks", desc := "()V" } : Jvm.MethodName)) ∈ zGW := zw (zt3 (i := 88) rfl) rfl
set_option maxRecDepth 10000 in
theorem zwd569 : (Jvm.Cond.code ({ cls := "RightTurns$Reader", name := "skipBlanks", desc := "()V" } : Jvm.MethodName) prog_7_method_16_code (2 : Nat) (Option.none : Option Jvm.ClassFile.FieldType)) ∈ zGW := zw (zt3 (i := 89) rfl) rfl
set_option maxRecDepth 10000 in
theorem zwd570 : (Jvm.Cond.methodLink "RightTurns$Reader" (45 : Nat) ({ cls := "RightTurns$Town", name := "settle", desc := "()V" } : Jvm.MethodName)) ∈ zGW := zw (zt3 (i := 90) rfl) rfl
set_option maxRecDepth 10000 in
theorem zwd571 : (Jvm.Cond.instanceMethod ({ cls := "RightTurns$Town", name := "settle", desc := "()V" } : Jvm.MethodName)) ∈ zGW := zw (zt3 (i := 91) rfl) rfl
set_option maxRecDepth 10000 in
theorem zwd572 : (Jvm.Cond.selects "RightTurns$Town" ({ cls := "RightTurns$Town", name := "settle", desc := "()V" } : Jvm.MethodName) ({ cls := "RightTurns$Town", name := "settle", desc := "()V" } : Jvm.MethodName)) ∈ zGW := zw (zt3 (i := 92) rfl) rfl
set_option maxRecDepth 10000 in
theorem zwd573 : (Jvm.Cond.code ({ cls := "RightTurns$Town", name := "settle", desc := "()V" } : Jvm.MethodName) prog_11_method_11_code (2 : Nat) (Option.none : Option Jvm.ClassFile.FieldType)) ∈ zGW := zw (zt3 (i := 93) rfl) rfl
set_option maxRecDepth 10000 in
theorem zwd575 : (Jvm.Cond.static ({ cls := "RightTurns", name := "has", desc := "(JI)Z" } : Jvm.MethodName)) ∈ zGW := zw (zt3 (i := 95) rfl) rfl
set_option maxRecDepth 10000 in
theorem zwd576 : (Jvm.Cond.code ({ cls := "RightTurns", name := "has", desc := "(JI)Z" } : Jvm.MethodName) prog_1_method_50_code (3 : Nat) (Option.some Jvm.ClassFile.FieldType.boolean)) ∈ zGW := zw (zt3 (i := 96) rfl) rfl
set_option maxRecDepth 10000 in
theorem zwd577 : (Jvm.Cond.methodLink "RightTurns$Town" (92 : Nat) ({ cls := "RightTurns$Town", name := "settleTurnsOf", desc := "(I)V" } : Jvm.MethodName)) ∈ zGW := zw (zt3 (i := 97) rfl) rfl
set_option maxRecDepth 10000 in
theorem zwd579 : (Jvm.Cond.instanceMethod ({ cls := "RightTurns$Town", name := "settleTurnsOf", desc := "(I)V" } : Jvm.MethodName)) ∈ zGW := zw (zt3 (i := 99) rfl) rfl
set_option maxRecDepth 10000 in
theorem zwd580 : (Jvm.Cond.code ({ cls := "RightTurns$Town", name := "settleTurnsOf", desc := "(I)V" } : Jvm.MethodName) prog_11_method_12_code (4 : Nat) (Option.none : Option Jvm.ClassFile.FieldType)) ∈ zGW := zw (zt3 (i := 100) rfl) rfl
set_option maxRecDepth 10000 in
theorem zwd581 : (Jvm.Cond.methodLink "RightTurns$Town" (99 : Nat) ({ cls := "RightTurns$Town", name := "kindOfTurn", desc := "(II)I" } : Jvm.MethodName)) ∈ zGW := zw (zt3 (i := 101) rfl) rfl
set_option maxRecDepth 10000 in
theorem zwd582 : (Jvm.Cond.instanceMethod ({ cls := "RightTurns$Town", name := "kindOfTurn", desc := "(II)I" } : Jvm.MethodName)) ∈ zGW := zw (zt3 (i := 102) rfl) rfl
set_option maxRecDepth 10000 in
theorem zwd583 : (Jvm.Cond.selects "RightTurns$Town" ({ cls := "RightTurns$Town", name := "kindOfTurn", desc := "(II)I" } : Jvm.MethodName) ({ cls := "RightTurns$Town", name := "kindOfTurn", desc := "(II)I" } : Jvm.MethodName)) ∈ zGW := zw (zt3 (i := 103) rfl) rfl
set_option maxRecDepth 10000 in
theorem zwd584 : (Jvm.Cond.code ({ cls := "RightTurns$Town", name := "kindOfTurn", desc := "(II)I" } : Jvm.MethodName) prog_11_method_10_code (8 : Nat) (Option.some Jvm.ClassFile.FieldType.int)) ∈ zGW := zw (zt3 (i := 104) rfl) rfl
set_option maxRecDepth 10000 in
theorem zwd585 : (Jvm.Cond.methodLink "RightTurns$Town" (96 : Nat) ({ cls := "RightTurns$Town", name := "listLeftTurns", desc := "()V" } : Jvm.MethodName)) ∈ zGW := zw (zt3 (i := 105) rfl) rfl
set_option maxRecDepth 10000 in
theorem zwd587 : (Jvm.Cond.instanceMethod ({ cls := "RightTurns$Town", name := "listLeftTurns", desc := "()V" } : Jvm.MethodName)) ∈ zGW := zw (zt3 (i := 107) rfl) rfl
set_option maxRecDepth 10000 in
theorem zwd588 : (Jvm.Cond.code ({ cls := "RightTurns$Town", name := "listLeftTurns", desc := "()V" } : Jvm.MethodName) prog_11_method_13_code (5 : Nat) (Option.none : Option Jvm.ClassFile.FieldType)) ∈ zGW := zw (zt3 (i := 108) rfl) rfl
set_option maxRecDepth 10000 in
theorem zwd590 : (Jvm.Cond.static ({ cls := "RightTurns", name := "bothArcs", desc := "(I)J" } : Jvm.MethodName)) ∈ zGW := zw (zt3 (i := 110) rfl) rfl
set_option maxRecDepth 10000 in
theorem zwd591 : (Jvm.Cond.code ({ cls := "RightTurns", name := "bothArcs", desc := "(I)J" } : Jvm.MethodName) prog_1_method_52_code (1 : Nat) (Option.some Jvm.ClassFile.FieldType.long)) ∈ zGW := zw (zt3 (i := 111) rfl) rfl
set_option maxRecDepth 10000 in
theorem zwd592 : (Jvm.Cond.constantLong "RightTurns" (390 : Nat) (3 : Int64)) ∈ zGW := zw (zt3 (i := 112) rfl) rfl
set_option maxRecDepth 10000 in
theorem zwd593 : (Jvm.Cond.methodLink "RightTurns$Reader" (48 : Nat) ({ cls := "RightTurns$Reader", name := "readsClause", desc := "(LRightTurns$Town;I)Z" } : Jvm.MethodName)) ∈ zGW := zw (zt3 (i := 113) rfl) rfl
set_option maxRecDepth 10000 in
theorem zwd595 : (Jvm.Cond.instanceMethod ({ cls := "RightTurns$Reader", name := "readsClause", desc := "(LRightTurns$Town;I)Z" } : Jvm.MethodName)) ∈ zGW := zw (zt3 (i := 115) rfl) rfl
set_option maxRecDepth 10000 in
theorem zwd596 : (Jvm.Cond.code ({ cls := "RightTurns$Reader", name := "readsClause", desc := "(LRightTurns$Town;I)Z" } : Jvm.MethodName) prog_7_method_3_code (5 : Nat) (Option.some Jvm.ClassFile.FieldType.boolean)) ∈ zGW := zw (zt3 (i := 116) rfl) rfl
set_option maxRecDepth 10000 in
theorem zwd597 : (Jvm.Cond.methodLink "RightTurns$Reader" (52 : Nat) ({ cls := "RightTurns$Reader", name := "readWord", desc := "()I" } : Jvm.MethodName)) ∈ zGW := zw (zt3 (i := 117) rfl) rfl
set_option maxRecDepth 10000 in
theorem zwd599 : (Jvm.Cond.instanceMethod ({ cls := "RightTurns$Reader", name := "readWord", desc := "()I" } : Jvm.MethodName)) ∈ zGW := zw (zt3 (i := 119) rfl) rfl
set_option maxRecDepth 10000 in
theorem zwd600 : (Jvm.Cond.code ({ cls := "RightTurns$Reader", name := "readWord", desc := "()I" } : Jvm.MethodName) prog_7_method_13_code (3 : Nat) (Option.some Jvm.ClassFile.FieldType.int)) ∈ zGW := zw (zt3 (i := 120) rfl) rfl
set_option maxRecDepth 10000 in
theorem zwd601 : (Jvm.Cond.methodLink "RightTurns$Reader" (140 : Nat) ({ cls := "RightTurns$Reader", name := "isLetter", desc := "(I)Z" } : Jvm.MethodName)) ∈ zGW := zw (zt3 (i := 121) rfl) rfl
set_option maxRecDepth 10000 in
theorem zwd602 : (Jvm.Cond.static ({ cls := "RightTurns$Reader", name := "isLetter", desc := "(I)Z" } : Jvm.MethodName)) ∈ zGW := zw (zt3 (i := 122) rfl) rfl
set_option maxRecDepth 10000 in
theorem zwd603 : (Jvm.Cond.code ({ cls := "RightTurns$Reader", name := "isLetter", desc := "(I)Z" } : Jvm.MethodName) prog_7_method_19_code (1 : Nat) (Option.some Jvm.ClassFile.FieldType.boolean)) ∈ zGW := zw (zt3 (i := 123) rfl) rfl
set_option maxRecDepth 10000 in
theorem zwd604 : (Jvm.Cond.methodLink "RightTurns$Reader" (143 : Nat) ({ cls := "RightTurns$Reader", name := "nameOf", desc := "(I)Ljava/lang/String;" } : Jvm.MethodName)) ∈ zGW := zw (zt3 (i := 124) rfl) rfl
set_option maxRecDepth 10000 in
theorem zwd605 : (Jvm.Cond.static ({ cls := "RightTurns$Reader", name := "nameOf", desc := "(I)Ljava/lang/String;" } : Jvm.MethodName)) ∈ zGW := zw (zt3 (i := 125) rfl) rfl
set_option maxRecDepth 10000 in
theorem zwd606 : (Jvm.Cond.code ({ cls := "RightTurns$Reader", name := "nameOf", desc := "(I)Ljava/lang/String;" } : Jvm.MethodName) prog_7_method_14_code (1 : Nat) (Option.some (Jvm.ClassFile.FieldType.object "java/lang/String"))) ∈ zGW := zw (zt3 (i := 126) rfl) rfl
set_option maxRecDepth 10000 in
theorem zwd614 : (Jvm.Cond.methodLink "RightTurns$Reader" (147 : Nat) ({ cls := "RightTurns$Reader", name := "spells", desc := "(Ljava/lang/String;I)Z" } : Jvm.MethodName)) ∈ zGW := zw (zt3 (i := 134) rfl) rfl
set_option maxRecDepth 10000 in
theorem zwd616 : (Jvm.Cond.instanceMethod ({ cls := "RightTurns$Reader", name := "spells", desc := "(Ljava/lang/String;I)Z" } : Jvm.MethodName)) ∈ zGW := zw (zt3 (i := 136) rfl) rfl
set_option maxRecDepth 10000 in
theorem zwd617 : (Jvm.Cond.code ({ cls := "RightTurns$Reader", name := "spells", desc := "(Ljava/lang/String;I)Z" } : Jvm.MethodName) prog_7_method_15_code (4 : Nat) (Option.some Jvm.ClassFile.FieldType.boolean)) ∈ zGW := zw (zt3 (i := 137) rfl) rfl
set_option maxRecDepth 10000 in
theorem zwd666 : (Jvm.Cond.methodLink "RightTurns$Reader" (56 : Nat) ({ cls := "RightTurns$Reader", name := "wrong", desc := "(II)Z" } : Jvm.MethodName)) ∈ zGW := zw (zt3 (i := 186) rfl) rfl
set_option maxRecDepth 10000 in
theorem zwd668 : (Jvm.Cond.instanceMethod ({ cls := "RightTurns$Reader", name := "wrong", desc := "(II)Z" } : Jvm.MethodName)) ∈ zGW := zw (zt3 (i := 188) rfl) rfl
set_option maxRecDepth 10000 in
theorem zwd669 : (Jvm.Cond.code ({ cls := "RightTurns$Reader", name := "wrong", desc := "(II)Z" } : Jvm.MethodName) prog_7_method_17_code (3 : Nat) (Option.some Jvm.ClassFile.FieldType.boolean)) ∈ zGW := zw (zt3 (i := 189) rfl) rfl
set_option maxRecDepth 10000 in
theorem zwd670 : (Jvm.Cond.methodLink "RightTurns$Reader" (60 : Nat) ({ cls := "RightTurns$Town", name := "isFull", desc := "(I)Z" } : Jvm.MethodName)) ∈ zGW := zw (zt3 (i := 190) rfl) rfl
set_option maxRecDepth 10000 in
theorem zwd671 : (Jvm.Cond.instanceMethod ({ cls := "RightTurns$Town", name := "isFull", desc := "(I)Z" } : Jvm.MethodName)) ∈ zGW := zw (zt3 (i := 191) rfl) rfl
set_option maxRecDepth 10000 in
theorem zwd672 : (Jvm.Cond.selects "RightTurns$Town" ({ cls := "RightTurns$Town", name := "isFull", desc := "(I)Z" } : Jvm.MethodName) ({ cls := "RightTurns$Town", name := "isFull", desc := "(I)Z" } : Jvm.MethodName)) ∈ zGW := zw (zt3 (i := 192) rfl) rfl
set_option maxRecDepth 10000 in
theorem zwd673 : (Jvm.Cond.code ({ cls := "RightTurns$Town", name := "isFull", desc := "(I)Z" } : Jvm.MethodName) prog_11_method_3_code (2 : Nat) (Option.some Jvm.ClassFile.FieldType.boolean)) ∈ zGW := zw (zt3 (i := 193) rfl) rfl
set_option maxRecDepth 10000 in
theorem zwd674 : (Jvm.Cond.methodLink "RightTurns$Town" (78 : Nat) ({ cls := "java/lang/Integer", name := "bitCount", desc := "(I)I" } : Jvm.MethodName)) ∈ zGW := zw (zt3 (i := 194) rfl) rfl
set_option maxRecDepth 10000 in
theorem zwd675 : (Jvm.Cond.static ({ cls := "java/lang/Integer", name := "bitCount", desc := "(I)I" } : Jvm.MethodName)) ∈ zGW := zw (zt3 (i := 195) rfl) rfl
set_option maxRecDepth 10000 in
theorem zwd676 : (Jvm.Cond.code ({ cls := "java/lang/Integer", name := "bitCount", desc := "(I)I" } : Jvm.MethodName) prog_21_method_49_code (1 : Nat) (Option.some Jvm.ClassFile.FieldType.int)) ∈ zGW := zw (zt3 (i := 196) rfl) rfl
set_option maxRecDepth 10000 in
theorem zwd677 : (Jvm.Cond.constant "java/lang/Integer" (265 : Nat) (1431655765 : Int32)) ∈ zGW := zw (zt3 (i := 197) rfl) rfl
set_option maxRecDepth 10000 in
theorem zwd678 : (Jvm.Cond.constant "java/lang/Integer" (266 : Nat) (858993459 : Int32)) ∈ zGW := zw (zt3 (i := 198) rfl) rfl
set_option maxRecDepth 10000 in
theorem zwd679 : (Jvm.Cond.constant "java/lang/Integer" (267 : Nat) (252645135 : Int32)) ∈ zGW := zw (zt3 (i := 199) rfl) rfl
set_option maxRecDepth 10000 in
theorem zwd680 : (Jvm.Cond.methodLink "RightTurns$Reader" (64 : Nat) ({ cls := "RightTurns$Reader", name := "readsNumbers", desc := "(LRightTurns$Town;I)Z" } : Jvm.MethodName)) ∈ zGW := zw (zt3 (i := 200) rfl) rfl
set_option maxRecDepth 10000 in
theorem zwd682 : (Jvm.Cond.instanceMethod ({ cls := "RightTurns$Reader", name := "readsNumbers", desc := "(LRightTurns$Town;I)Z" } : Jvm.MethodName)) ∈ zGW := zw (zt3 (i := 202) rfl) rfl
set_option maxRecDepth 10000 in
theorem zwd683 : (Jvm.Cond.code ({ cls := "RightTurns$Reader", name := "readsNumbers", desc := "(LRightTurns$Town;I)Z" } : Jvm.MethodName) prog_7_method_4_code (3 : Nat) (Option.some Jvm.ClassFile.FieldType.boolean)) ∈ zGW := zw (zt3 (i := 203) rfl) rfl
set_option maxRecDepth 10000 in
theorem zwd684 : (Jvm.Cond.methodLink "RightTurns$Reader" (71 : Nat) ({ cls := "RightTurns$Reader", name := "readsCorner", desc := "(LRightTurns$Town;)Z" } : Jvm.MethodName)) ∈ zGW := zw (zt3 (i := 204) rfl) rfl
set_option maxRecDepth 10000 in
theorem zwd686 : (Jvm.Cond.instanceMethod ({ cls := "RightTurns$Reader", name := "readsCorner", desc := "(LRightTurns$Town;)Z" } : Jvm.MethodName)) ∈ zGW := zw (zt3 (i := 206) rfl) rfl
set_option maxRecDepth 10000 in
theorem zwd687 : (Jvm.Cond.code ({ cls := "RightTurns$Reader", name := "readsCorner", desc := "(LRightTurns$Town;)Z" } : Jvm.MethodName) prog_7_method_5_code (4 : Nat) (Option.some Jvm.ClassFile.FieldType.boolean)) ∈ zGW := zw (zt3 (i := 207) rfl) rfl
set_option maxRecDepth 10000 in
theorem zwd688 : (Jvm.Cond.methodLink "RightTurns$Reader" (98 : Nat) ({ cls := "RightTurns$Reader", name := "readNumber", desc := "(II)I" } : Jvm.MethodName)) ∈ zGW := zw (zt3 (i := 208) rfl) rfl
set_option maxRecDepth 10000 in
theorem zwd690 : (Jvm.Cond.instanceMethod ({ cls := "RightTurns$Reader", name := "readNumber", desc := "(II)I" } : Jvm.MethodName)) ∈ zGW := zw (zt3 (i := 210) rfl) rfl
set_option maxRecDepth 10000 in
theorem zwd691 : (Jvm.Cond.code ({ cls := "RightTurns$Reader", name := "readNumber", desc := "(II)I" } : Jvm.MethodName) prog_7_method_12_code (5 : Nat) (Option.some Jvm.ClassFile.FieldType.int)) ∈ zGW := zw (zt3 (i := 211) rfl) rfl
set_option maxRecDepth 10000 in
theorem zwd692 : (Jvm.Cond.methodLink "RightTurns$Reader" (137 : Nat) ({ cls := "RightTurns$Reader", name := "isDigit", desc := "(I)Z" } : Jvm.MethodName)) ∈ zGW := zw (zt3 (i := 212) rfl) rfl
set_option maxRecDepth 10000 in
theorem zwd693 : (Jvm.Cond.static ({ cls := "RightTurns$Reader", name := "isDigit", desc := "(I)Z" } : Jvm.MethodName)) ∈ zGW := zw (zt3 (i := 213) rfl) rfl
set_option maxRecDepth 10000 in
theorem zwd694 : (Jvm.Cond.code ({ cls := "RightTurns$Reader", name := "isDigit", desc := "(I)Z" } : Jvm.MethodName) prog_7_method_18_code (1 : Nat) (Option.some Jvm.ClassFile.FieldType.boolean)) ∈ zGW := zw (zt3 (i := 214) rfl) rfl
set_option maxRecDepth 10000 in
theorem zwd695 : (Jvm.Cond.methodLink "RightTurns$Reader" (101 : Nat) ({ cls := "RightTurns$Town", name := "isTaken", desc := "(II)Z" } : Jvm.MethodName)) ∈ zGW := zw (zt3 (i := 215) rfl) rfl
set_option maxRecDepth 10000 in
theorem zwd696 : (Jvm.Cond.instanceMethod ({ cls := "RightTurns$Town", name := "isTaken", desc := "(II)Z" } : Jvm.MethodName)) ∈ zGW := zw (zt3 (i := 216) rfl) rfl
set_option maxRecDepth 10000 in
theorem zwd697 : (Jvm.Cond.selects "RightTurns$Town" ({ cls := "RightTurns$Town", name := "isTaken", desc := "(II)Z" } : Jvm.MethodName) ({ cls := "RightTurns$Town", name := "isTaken", desc := "(II)Z" } : Jvm.MethodName)) ∈ zGW := zw (zt3 (i := 217) rfl) rfl
set_option maxRecDepth 10000 in
theorem zwd698 : (Jvm.Cond.code ({ cls := "RightTurns$Town", name := "isTaken", desc := "(II)Z" } : Jvm.MethodName) prog_11_method_4_code (4 : Nat) (Option.some Jvm.ClassFile.FieldType.boolean)) ∈ zGW := zw (zt3 (i := 218) rfl) rfl
set_option maxRecDepth 10000 in
theorem zwd699 : (Jvm.Cond.methodLink "RightTurns$Reader" (104 : Nat) ({ cls := "RightTurns$Town", name := "addCorner", desc := "(II)V" } : Jvm.MethodName)) ∈ zGW := zw (zt3 (i := 219) rfl) rfl
set_option maxRecDepth 10000 in
theorem zwd700 : (Jvm.Cond.instanceMethod ({ cls := "RightTurns$Town", name := "addCorner", desc := "(II)V" } : Jvm.MethodName)) ∈ zGW := zw (zt3 (i := 220) rfl) rfl
set_option maxRecDepth 10000 in
theorem zwd701 : (Jvm.Cond.selects "RightTurns$Town" ({ cls := "RightTurns$Town", name := "addCorner", desc := "(II)V" } : Jvm.MethodName) ({ cls := "RightTurns$Town", name := "addCorner", desc := "(II)V" } : Jvm.MethodName)) ∈ zGW := zw (zt3 (i := 221) rfl) rfl
set_option maxRecDepth 10000 in
theorem zwd702 : (Jvm.Cond.code ({ cls := "RightTurns$Town", name := "addCorner", desc := "(II)V" } : Jvm.MethodName) prog_11_method_5_code (3 : Nat) (Option.none : Option Jvm.ClassFile.FieldType)) ∈ zGW := zw (zt3 (i := 222) rfl) rfl
set_option maxRecDepth 10000 in
theorem zwd703 : (Jvm.Cond.methodLink "RightTurns$Reader" (75 : Nat) ({ cls := "RightTurns$Reader", name := "readsStreet", desc := "(LRightTurns$Town;)Z" } : Jvm.MethodName)) ∈ zGW := zw (zt3 (i := 223) rfl) rfl
set_option maxRecDepth 10000 in
theorem zwd705 : (Jvm.Cond.instanceMethod ({ cls := "RightTurns$Reader", name := "readsStreet", desc := "(LRightTurns$Town;)Z" } : Jvm.MethodName)) ∈ zGW := zw (zt3 (i := 225) rfl) rfl
set_option maxRecDepth 10000 in
theorem zwd706 : (Jvm.Cond.code ({ cls := "RightTurns$Reader", name := "readsStreet", desc := "(LRightTurns$Town;)Z" } : Jvm.MethodName) prog_7_method_6_code (5 : Nat) (Option.some Jvm.ClassFile.FieldType.boolean)) ∈ zGW := zw (zt3 (i := 226) rfl) rfl
set_option maxRecDepth 10000 in
theorem zwd707 : (Jvm.Cond.methodLink "RightTurns$Reader" (111 : Nat) ({ cls := "RightTurns$Town", name := "addStreet", desc := "(III)V" } : Jvm.MethodName)) ∈ zGW := zw (zt3 (i := 227) rfl) rfl
set_option maxRecDepth 10000 in
theorem zwd708 : (Jvm.Cond.instanceMethod ({ cls := "RightTurns$Town", name := "addStreet", desc := "(III)V" } : Jvm.MethodName)) ∈ zGW := zw (zt3 (i := 228) rfl) rfl
set_option maxRecDepth 10000 in
theorem zwd709 : (Jvm.Cond.selects "RightTurns$Town" ({ cls := "RightTurns$Town", name := "addStreet", desc := "(III)V" } : Jvm.MethodName) ({ cls := "RightTurns$Town", name := "addStreet", desc := "(III)V" } : Jvm.MethodName)) ∈ zGW := zw (zt3 (i := 229) rfl) rfl
set_option maxRecDepth 10000 in
theorem zwd710 : (Jvm.Cond.code ({ cls := "RightTurns$Town", name := "addStreet", desc := "(III)V" } : Jvm.MethodName) prog_11_method_6_code (5 : Nat) (Option.none : Option Jvm.ClassFile.FieldType)) ∈ zGW := zw (zt3 (i := 230) rfl) rfl
set_option maxRecDepth 10000 in
theorem zwd711 : (Jvm.Cond.methodLink "RightTurns$Reader" (78 : Nat) ({ cls := "RightTurns$Reader", name := "readsOneWay", desc := "(LRightTurns$Town;)Z" } : Jvm.MethodName)) ∈ zGW := zw (zt3 (i := 231) rfl) rfl
set_option maxRecDepth 10000 in
theorem zwd713 : (Jvm.Cond.instanceMethod ({ cls := "RightTurns$Reader", name := "readsOneWay", desc := "(LRightTurns$Town;)Z" } : Jvm.MethodName)) ∈ zGW := zw (zt3 (i := 233) rfl) rfl
set_option maxRecDepth 10000 in
theorem zwd714 : (Jvm.Cond.code ({ cls := "RightTurns$Reader", name := "readsOneWay", desc := "(LRightTurns$Town;)Z" } : Jvm.MethodName) prog_7_method_7_code (3 : Nat) (Option.some Jvm.ClassFile.FieldType.boolean)) ∈ zGW := zw (zt3 (i := 234) rfl) rfl
set_option maxRecDepth 10000 in
theorem zwd715 : (Jvm.Cond.constantLong "RightTurns$Reader" (122 : Nat) (-1 : Int64)) ∈ zGW := zw (zt3 (i := 235) rfl) rfl
set_option maxRecDepth 10000 in
theorem zwd716 : (Jvm.Cond.methodLink "RightTurns$Reader" (81 : Nat) ({ cls := "RightTurns$Reader", name := "readsBox", desc := "(LRightTurns$Town;)Z" } : Jvm.MethodName)) ∈ zGW := zw (zt3 (i := 236) rfl) rfl
set_option maxRecDepth 10000 in
theorem zwd718 : (Jvm.Cond.instanceMethod ({ cls := "RightTurns$Reader", name := "readsBox", desc := "(LRightTurns$Town;)Z" } : Jvm.MethodName)) ∈ zGW := zw (zt3 (i := 238) rfl) rfl
set_option maxRecDepth 10000 in
theorem zwd719 : (Jvm.Cond.code ({ cls := "RightTurns$Reader", name := "readsBox", desc := "(LRightTurns$Town;)Z" } : Jvm.MethodName) prog_7_method_9_code (3 : Nat) (Option.some Jvm.ClassFile.FieldType.boolean)) ∈ zGW := zw (zt3 (i := 239) rfl) rfl
set_option maxRecDepth 10000 in
theorem zwd720 : (Jvm.Cond.methodLink "RightTurns$Reader" (84 : Nat) ({ cls := "RightTurns$Reader", name := "readsRider", desc := "(LRightTurns$Town;)Z" } : Jvm.MethodName)) ∈ zGW := zw (zt4 (i := 0) rfl) rfl
set_option maxRecDepth 10000 in
theorem zwd722 : (Jvm.Cond.instanceMethod ({ cls := "RightTurns$Reader", name := "readsRider", desc := "(LRightTurns$Town;)Z" } : Jvm.MethodName)) ∈ zGW := zw (zt4 (i := 2) rfl) rfl
set_option maxRecDepth 10000 in
theorem zwd723 : (Jvm.Cond.code ({ cls := "RightTurns$Reader", name := "readsRider", desc := "(LRightTurns$Town;)Z" } : Jvm.MethodName) prog_7_method_10_code (5 : Nat) (Option.some Jvm.ClassFile.FieldType.boolean)) ∈ zGW := zw (zt4 (i := 3) rfl) rfl
set_option maxRecDepth 10000 in
theorem zwd724 : (Jvm.Cond.methodLink "RightTurns$Reader" (134 : Nat) ({ cls := "RightTurns$Town", name := "addRider", desc := "(III)V" } : Jvm.MethodName)) ∈ zGW := zw (zt4 (i := 4) rfl) rfl
set_option maxRecDepth 10000 in
theorem zwd725 : (Jvm.Cond.instanceMethod ({ cls := "RightTurns$Town", name := "addRider", desc := "(III)V" } : Jvm.MethodName)) ∈ zGW := zw (zt4 (i := 5) rfl) rfl
set_option maxRecDepth 10000 in
theorem zwd726 : (Jvm.Cond.selects "RightTurns$Town" ({ cls := "RightTurns$Town", name := "addRider", desc := "(III)V" } : Jvm.MethodName) ({ cls := "RightTurns$Town", name := "addRider", desc := "(III)V" } : Jvm.MethodName)) ∈ zGW := zw (zt4 (i := 6) rfl) rfl
set_option maxRecDepth 10000 in
theorem zwd727 : (Jvm.Cond.code ({ cls := "RightTurns$Town", name := "addRider", desc := "(III)V" } : Jvm.MethodName) prog_11_method_7_code (4 : Nat) (Option.none : Option Jvm.ClassFile.FieldType)) ∈ zGW := zw (zt4 (i := 7) rfl) rfl
set_option maxRecDepth 10000 in
theorem zwd728 : (Jvm.Cond.methodLink "RightTurns$Reader" (94 : Nat) ({ cls := "RightTurns$Reader", name := "readsPair", desc := "(LRightTurns$Town;[J)Z" } : Jvm.MethodName)) ∈ zGW := zw (zt4 (i := 8) rfl) rfl
set_option maxRecDepth 10000 in
theorem zwd730 : (Jvm.Cond.instanceMethod ({ cls := "RightTurns$Reader", name := "readsPair", desc := "(LRightTurns$Town;[J)Z" } : Jvm.MethodName)) ∈ zGW := zw (zt4 (i := 10) rfl) rfl
set_option maxRecDepth 10000 in
theorem zwd731 : (Jvm.Cond.code ({ cls := "RightTurns$Reader", name := "readsPair", desc := "(LRightTurns$Town;[J)Z" } : Jvm.MethodName) prog_7_method_8_code (5 : Nat) (Option.some Jvm.ClassFile.FieldType.boolean)) ∈ zGW := zw (zt4 (i := 11) rfl) rfl
set_option maxRecDepth 10000 in
theorem zwd732 : (Jvm.Cond.methodLink "RightTurns$Reader" (124 : Nat) ({ cls := "RightTurns$Town", name := "meet", desc := "(II)Z" } : Jvm.MethodName)) ∈ zGW := zw (zt4 (i := 12) rfl) rfl
set_option maxRecDepth 10000 in
theorem zwd733 : (Jvm.Cond.instanceMethod ({ cls := "RightTurns$Town", name := "meet", desc := "(II)Z" } : Jvm.MethodName)) ∈ zGW := zw (zt4 (i := 13) rfl) rfl
set_option maxRecDepth 10000 in
theorem zwd734 : (Jvm.Cond.selects "RightTurns$Town" ({ cls := "RightTurns$Town", name := "meet", desc := "(II)Z" } : Jvm.MethodName) ({ cls := "RightTurns$Town", name := "meet", desc := "(II)Z" } : Jvm.MethodName)) ∈ zGW := zw (zt4 (i := 14) rfl) rfl
set_option maxRecDepth 10000 in
theorem zwd735 : (Jvm.Cond.code ({ cls := "RightTurns$Town", name := "meet", desc := "(II)Z" } : Jvm.MethodName) prog_11_method_9_code (5 : Nat) (Option.some Jvm.ClassFile.FieldType.boolean)) ∈ zGW := zw (zt4 (i := 15) rfl) rfl
set_option maxRecDepth 10000 in
theorem zwd737 : (Jvm.Cond.methodLink "RightTurns$Reader" (67 : Nat) ({ cls := "RightTurns$Reader", name := "readsMark", desc := "()Z" } : Jvm.MethodName)) ∈ zGW := zw (zt4 (i := 17) rfl) rfl
set_option maxRecDepth 10000 in
theorem zwd739 : (Jvm.Cond.instanceMethod ({ cls := "RightTurns$Reader", name := "readsMark", desc := "()Z" } : Jvm.MethodName)) ∈ zGW := zw (zt4 (i := 19) rfl) rfl
set_option maxRecDepth 10000 in
theorem zwd740 : (Jvm.Cond.code ({ cls := "RightTurns$Reader", name := "readsMark", desc := "()Z" } : Jvm.MethodName) prog_7_method_11_code (1 : Nat) (Option.some Jvm.ClassFile.FieldType.boolean)) ∈ zGW := zw (zt4 (i := 20) rfl) rfl
set_option maxRecDepth 10000 in
theorem zwd741 : (Jvm.Cond.methodLink "RightTurnsLaw" (143 : Nat) ({ cls := "RightTurnsLaw", name := "told", desc := "(LRightTurns;I[J)I" } : Jvm.MethodName)) ∈ zGW := zw (zt4 (i := 21) rfl) rfl
set_option maxRecDepth 10000 in
theorem zwd742 : (Jvm.Cond.static ({ cls := "RightTurnsLaw", name := "told", desc := "(LRightTurns;I[J)I" } : Jvm.MethodName)) ∈ zGW := zw (zt4 (i := 22) rfl) rfl
set_option maxRecDepth 10000 in
theorem zwd743 : (Jvm.Cond.codeWith ({ cls := "RightTurnsLaw", name := "told", desc := "(LRightTurns;I[J)I" } : Jvm.MethodName) method_4_code (4 : Nat) (Option.some Jvm.ClassFile.FieldType.int) [((0 : Nat), (9 : Nat), (12 : Nat), (13 : Nat))]) ∈ zGW := zw (zt4 (i := 23) rfl) rfl
set_option maxRecDepth 10000 in
theorem zwd744 : (Jvm.Cond.methodLink "RightTurnsLaw" (15 : Nat) ({ cls := "RightTurns", name := "told", desc := "(I)I" } : Jvm.MethodName)) ∈ zGW := zw (zt4 (i := 24) rfl) rfl
set_option maxRecDepth 10000 in
theorem zwd745 : (Jvm.Cond.instanceMethod ({ cls := "RightTurns", name := "told", desc := "(I)I" } : Jvm.MethodName)) ∈ zGW := zw (zt4 (i := 25) rfl) rfl
set_option maxRecDepth 10000 in
theorem zwd746 : (Jvm.Cond.selects "RightTurns" ({ cls := "RightTurns", name := "told", desc := "(I)I" } : Jvm.MethodName) ({ cls := "RightTurns", name := "told", desc := "(I)I" } : Jvm.MethodName)) ∈ zGW := zw (zt4 (i := 26) rfl) rfl
set_option maxRecDepth 10000 in
theorem zwd747 : (Jvm.Cond.code ({ cls := "RightTurns", name := "told", desc := "(I)I" } : Jvm.MethodName) prog_1_method_5_code (2 : Nat) (Option.some Jvm.ClassFile.FieldType.int)) ∈ zGW := zw (zt4 (i := 27) rfl) rfl
set_option maxRecDepth 10000 in
theorem zwd748 : (Jvm.Cond.methodLink "RightTurns" (132 : Nat) ({ cls := "java/lang/Integer", name := "bitCount", desc := "(I)I" } : Jvm.MethodName)) ∈ zGW := zw (zt4 (i := 28) rfl) rfl
set_option maxRecDepth 10000 in
theorem zwd750 : (Jvm.Cond.methodLink "RightTurnsLaw" (146 : Nat) ({ cls := "RightTurnsLaw", name := "street", desc := "(LRightTurns;II[J)I" } : Jvm.MethodName)) ∈ zGW := zw (zt4 (i := 30) rfl) rfl
set_option maxRecDepth 10000 in
theorem zwd751 : (Jvm.Cond.static ({ cls := "RightTurnsLaw", name := "street", desc := "(LRightTurns;II[J)I" } : Jvm.MethodName)) ∈ zGW := zw (zt4 (i := 31) rfl) rfl
set_option maxRecDepth 10000 in
theorem zwd752 : (Jvm.Cond.codeWith ({ cls := "RightTurnsLaw", name := "street", desc := "(LRightTurns;II[J)I" } : Jvm.MethodName) method_5_code (5 : Nat) (Option.some Jvm.ClassFile.FieldType.int) [((0 : Nat), (10 : Nat), (13 : Nat), (22 : Nat)), ((0 : Nat), (10 : Nat), (17 : Nat), (13 : Nat))]) ∈ zGW := zw (zt4 (i := 32) rfl) rfl
set_option maxRecDepth 10000 in
theorem zwd754 : (Jvm.Cond.methodLink "RightTurnsLaw" (18 : Nat) ({ cls := "RightTurns", name := "street", desc := "(II)I" } : Jvm.MethodName)) ∈ zGW := zw (zt4 (i := 34) rfl) rfl
set_option maxRecDepth 10000 in
theorem zwd755 : (Jvm.Cond.instanceMethod ({ cls := "RightTurns", name := "street", desc := "(II)I" } : Jvm.MethodName)) ∈ zGW := zw (zt4 (i := 35) rfl) rfl
set_option maxRecDepth 10000 in
theorem zwd756 : (Jvm.Cond.selects "RightTurns" ({ cls := "RightTurns", name := "street", desc := "(II)I" } : Jvm.MethodName) ({ cls := "RightTurns", name := "street", desc := "(II)I" } : Jvm.MethodName)) ∈ zGW := zw (zt4 (i := 36) rfl) rfl
set_option maxRecDepth 10000 in
theorem zwd757 : (Jvm.Cond.code ({ cls := "RightTurns", name := "street", desc := "(II)I" } : Jvm.MethodName) prog_1_method_6_code (4 : Nat) (Option.some Jvm.ClassFile.FieldType.int)) ∈ zGW := zw (zt4 (i := 37) rfl) rfl
set_option maxRecDepth 10000 in
theorem zwd758 : (Jvm.Cond.methodLink "RightTurns" (146 : Nat) ({ cls := "RightTurns", name := "needStreet", desc := "(I)V" } : Jvm.MethodName)) ∈ zGW := zw (zt4 (i := 38) rfl) rfl
set_option maxRecDepth 10000 in
theorem zwd760 : (Jvm.Cond.instanceMethod ({ cls := "RightTurns", name := "needStreet", desc := "(I)V" } : Jvm.MethodName)) ∈ zGW := zw (zt4 (i := 40) rfl) rfl
set_option maxRecDepth 10000 in
theorem zwd761 : (Jvm.Cond.code ({ cls := "RightTurns", name := "needStreet", desc := "(I)V" } : Jvm.MethodName) prog_1_method_45_code (2 : Nat) (Option.none : Option Jvm.ClassFile.FieldType)) ∈ zGW := zw (zt4 (i := 41) rfl) rfl
set_option maxRecDepth 10000 in
theorem zwd778 : (Jvm.Cond.methodLink "RightTurns" (149 : Nat) ({ cls := "RightTurns", name := "needWhat", desc := "(II)V" } : Jvm.MethodName)) ∈ zGW := zw (zt4 (i := 58) rfl) rfl
set_option maxRecDepth 10000 in
theorem zwd780 : (Jvm.Cond.instanceMethod ({ cls := "RightTurns", name := "needWhat", desc := "(II)V" } : Jvm.MethodName)) ∈ zGW := zw (zt4 (i := 60) rfl) rfl
set_option maxRecDepth 10000 in
theorem zwd781 : (Jvm.Cond.code ({ cls := "RightTurns", name := "needWhat", desc := "(II)V" } : Jvm.MethodName) prog_1_method_42_code (3 : Nat) (Option.none : Option Jvm.ClassFile.FieldType)) ∈ zGW := zw (zt4 (i := 61) rfl) rfl
set_option maxRecDepth 10000 in
theorem zwd782 : (Jvm.Cond.methodLink "RightTurns" (162 : Nat) ({ cls := "RightTurns$Town", name := "isArc", desc := "(I)Z" } : Jvm.MethodName)) ∈ zGW := zw (zt4 (i := 62) rfl) rfl
set_option maxRecDepth 10000 in
theorem zwd783 : (Jvm.Cond.instanceMethod ({ cls := "RightTurns$Town", name := "isArc", desc := "(I)Z" } : Jvm.MethodName)) ∈ zGW := zw (zt4 (i := 63) rfl) rfl
set_option maxRecDepth 10000 in
theorem zwd784 : (Jvm.Cond.selects "RightTurns$Town" ({ cls := "RightTurns$Town", name := "isArc", desc := "(I)Z" } : Jvm.MethodName) ({ cls := "RightTurns$Town", name := "isArc", desc := "(I)Z" } : Jvm.MethodName)) ∈ zGW := zw (zt4 (i := 64) rfl) rfl
set_option maxRecDepth 10000 in
theorem zwd785 : (Jvm.Cond.code ({ cls := "RightTurns$Town", name := "isArc", desc := "(I)Z" } : Jvm.MethodName) prog_11_method_8_code (2 : Nat) (Option.some Jvm.ClassFile.FieldType.boolean)) ∈ zGW := zw (zt4 (i := 65) rfl) rfl
set_option maxRecDepth 10000 in
theorem zwd786 : (Jvm.Cond.methodLink "RightTurnsLaw" (150 : Nat) ({ cls := "RightTurnsLaw", name := "turn", desc := "(LRightTurns;II[J)I" } : Jvm.MethodName)) ∈ zGW := zw (zt4 (i := 66) rfl) rfl
set_option maxRecDepth 10000 in
theorem zwd787 : (Jvm.Cond.static ({ cls := "RightTurnsLaw", name := "turn", desc := "(LRightTurns;II[J)I" } : Jvm.MethodName)) ∈ zGW := zw (zt4 (i := 67) rfl) rfl
set_option maxRecDepth 10000 in
theorem zwd788 : (Jvm.Cond.codeWith ({ cls := "RightTurnsLaw", name := "turn", desc := "(LRightTurns;II[J)I" } : Jvm.MethodName) method_6_code (5 : Nat) (Option.some Jvm.ClassFile.FieldType.int) [((0 : Nat), (10 : Nat), (13 : Nat), (22 : Nat))]) ∈ zGW := zw (zt4 (i := 68) rfl) rfl
set_option maxRecDepth 10000 in
theorem zwd789 : (Jvm.Cond.methodLink "RightTurnsLaw" (24 : Nat) ({ cls := "RightTurns", name := "turn", desc := "(II)I" } : Jvm.MethodName)) ∈ zGW := zw (zt4 (i := 69) rfl) rfl
set_option maxRecDepth 10000 in
theorem zwd790 : (Jvm.Cond.instanceMethod ({ cls := "RightTurns", name := "turn", desc := "(II)I" } : Jvm.MethodName)) ∈ zGW := zw (zt4 (i := 70) rfl) rfl
set_option maxRecDepth 10000 in
theorem zwd791 : (Jvm.Cond.selects "RightTurns" ({ cls := "RightTurns", name := "turn", desc := "(II)I" } : Jvm.MethodName) ({ cls := "RightTurns", name := "turn", desc := "(II)I" } : Jvm.MethodName)) ∈ zGW := zw (zt4 (i := 71) rfl) rfl
set_option maxRecDepth 10000 in
theorem zwd792 : (Jvm.Cond.code ({ cls := "RightTurns", name := "turn", desc := "(II)I" } : Jvm.MethodName) prog_1_method_7_code (3 : Nat) (Option.some Jvm.ClassFile.FieldType.int)) ∈ zGW := zw (zt4 (i := 72) rfl) rfl
set_option maxRecDepth 10000 in
theorem zwd793 : (Jvm.Cond.methodLink "RightTurns" (166 : Nat) ({ cls := "RightTurns", name := "needArc", desc := "(I)V" } : Jvm.MethodName)) ∈ zGW := zw (zt4 (i := 73) rfl) rfl
set_option maxRecDepth 10000 in
theorem zwd795 : (Jvm.Cond.instanceMethod ({ cls := "RightTurns", name := "needArc", desc := "(I)V" } : Jvm.MethodName)) ∈ zGW := zw (zt4 (i := 75) rfl) rfl
set_option maxRecDepth 10000 in
theorem zwd796 : (Jvm.Cond.code ({ cls := "RightTurns", name := "needArc", desc := "(I)V" } : Jvm.MethodName) prog_1_method_46_code (2 : Nat) (Option.none : Option Jvm.ClassFile.FieldType)) ∈ zGW := zw (zt4 (i := 76) rfl) rfl
set_option maxRecDepth 10000 in
theorem zwd798 : (Jvm.Cond.methodLink "RightTurns" (169 : Nat) ({ cls := "RightTurns$Town", name := "kindOfTurn", desc := "(II)I" } : Jvm.MethodName)) ∈ zGW := zw (zt4 (i := 78) rfl) rfl
set_option maxRecDepth 10000 in
theorem zwd799 : (Jvm.Cond.methodLink "RightTurnsLaw" (153 : Nat) ({ cls := "RightTurnsLaw", name := "may", desc := "(LRightTurns;III[J)I" } : Jvm.MethodName)) ∈ zGW := zw (zt4 (i := 79) rfl) rfl
set_option maxRecDepth 10000 in
theorem zwd800 : (Jvm.Cond.static ({ cls := "RightTurnsLaw", name := "may", desc := "(LRightTurns;III[J)I" } : Jvm.MethodName)) ∈ zGW := zw (zt4 (i := 80) rfl) rfl
set_option maxRecDepth 10000 in
theorem zwd801 : (Jvm.Cond.codeWith ({ cls := "RightTurnsLaw", name := "may", desc := "(LRightTurns;III[J)I" } : Jvm.MethodName) method_7_code (6 : Nat) (Option.some Jvm.ClassFile.FieldType.int) [((0 : Nat), (19 : Nat), (22 : Nat), (22 : Nat)), ((0 : Nat), (19 : Nat), (26 : Nat), (13 : Nat))]) ∈ zGW := zw (zt4 (i := 81) rfl) rfl
set_option maxRecDepth 10000 in
theorem zwd802 : (Jvm.Cond.methodLink "RightTurnsLaw" (27 : Nat) ({ cls := "RightTurns", name := "may", desc := "(III)Z" } : Jvm.MethodName)) ∈ zGW := zw (zt4 (i := 82) rfl) rfl
set_option maxRecDepth 10000 in
theorem zwd803 : (Jvm.Cond.instanceMethod ({ cls := "RightTurns", name := "may", desc := "(III)Z" } : Jvm.MethodName)) ∈ zGW := zw (zt4 (i := 83) rfl) rfl
set_option maxRecDepth 10000 in
theorem zwd804 : (Jvm.Cond.selects "RightTurns" ({ cls := "RightTurns", name := "may", desc := "(III)Z" } : Jvm.MethodName) ({ cls := "RightTurns", name := "may", desc := "(III)Z" } : Jvm.MethodName)) ∈ zGW := zw (zt4 (i := 84) rfl) rfl
set_option maxRecDepth 10000 in
theorem zwd805 : (Jvm.Cond.code ({ cls := "RightTurns", name := "may", desc := "(III)Z" } : Jvm.MethodName) prog_1_method_8_code (4 : Nat) (Option.some Jvm.ClassFile.FieldType.boolean)) ∈ zGW := zw (zt4 (i := 85) rfl) rfl
set_option maxRecDepth 10000 in
theorem zwd806 : (Jvm.Cond.methodLink "RightTurns" (173 : Nat) ({ cls := "RightTurns", name := "lookAt", desc := "(I)V" } : Jvm.MethodName)) ∈ zGW := zw (zt4 (i := 86) rfl) rfl
set_option maxRecDepth 10000 in
theorem zwd808 : (Jvm.Cond.instanceMethod ({ cls := "RightTurns", name := "lookAt", desc := "(I)V" } : Jvm.MethodName)) ∈ zGW := zw (zt4 (i := 88) rfl) rfl
set_option maxRecDepth 10000 in
theorem zwd809 : (Jvm.Cond.code ({ cls := "RightTurns", name := "lookAt", desc := "(I)V" } : Jvm.MethodName) prog_1_method_47_code (2 : Nat) (Option.none : Option Jvm.ClassFile.FieldType)) ∈ zGW := zw (zt4 (i := 89) rfl) rfl
set_option maxRecDepth 10000 in
theorem zwd810 : (Jvm.Cond.methodLink "RightTurns" (188 : Nat) ({ cls := "RightTurns", name := "needTime", desc := "(I)V" } : Jvm.MethodName)) ∈ zGW := zw (zt4 (i := 90) rfl) rfl
set_option maxRecDepth 10000 in
theorem zwd812 : (Jvm.Cond.instanceMethod ({ cls := "RightTurns", name := "needTime", desc := "(I)V" } : Jvm.MethodName)) ∈ zGW := zw (zt4 (i := 92) rfl) rfl
set_option maxRecDepth 10000 in
theorem zwd813 : (Jvm.Cond.code ({ cls := "RightTurns", name := "needTime", desc := "(I)V" } : Jvm.MethodName) prog_1_method_43_code (2 : Nat) (Option.none : Option Jvm.ClassFile.FieldType)) ∈ zGW := zw (zt4 (i := 93) rfl) rfl
set_option maxRecDepth 10000 in
theorem zwd815 : (Jvm.Cond.methodLink "RightTurns" (256 : Nat) ({ cls := "RightTurns$Changes", name := "bringTo", desc := "(ILRightTurns$Town;LRightTurns$Rules;)V" } : Jvm.MethodName)) ∈ zGW := zw (zt4 (i := 95) rfl) rfl
set_option maxRecDepth 10000 in
theorem zwd816 : (Jvm.Cond.instanceMethod ({ cls := "RightTurns$Changes", name := "bringTo", desc := "(ILRightTurns$Town;LRightTurns$Rules;)V" } : Jvm.MethodName)) ∈ zGW := zw (zt4 (i := 96) rfl) rfl
set_option maxRecDepth 10000 in
theorem zwd817 : (Jvm.Cond.selects "RightTurns$Changes" ({ cls := "RightTurns$Changes", name := "bringTo", desc := "(ILRightTurns$Town;LRightTurns$Rules;)V" } : Jvm.MethodName) ({ cls := "RightTurns$Changes", name := "bringTo", desc := "(ILRightTurns$Town;LRightTurns$Rules;)V" } : Jvm.MethodName)) ∈ zGW := zw (zt4 (i := 97) rfl) rfl
set_option maxRecDepth 10000 in
theorem zwd818 : (Jvm.Cond.code ({ cls := "RightTurns$Changes", name := "bringTo", desc := "(ILRightTurns$Town;LRightTurns$Rules;)V" } : Jvm.MethodName) prog_2_method_3_code (6 : Nat) (Option.none : Option Jvm.ClassFile.FieldType)) ∈ zGW := zw (zt4 (i := 98) rfl) rfl
set_option maxRecDepth 10000 in
theorem zwd819 : (Jvm.Cond.methodLink "RightTurns$Changes" (25 : Nat) ({ cls := "RightTurns$Rules", name := "startFrom", desc := "(LRightTurns$Town;)V" } : Jvm.MethodName)) ∈ zGW := zw (zt4 (i := 99) rfl) rfl
set_option maxRecDepth 10000 in
theorem zwd820 : (Jvm.Cond.instanceMethod ({ cls := "RightTurns$Rules", name := "startFrom", desc := "(LRightTurns$Town;)V" } : Jvm.MethodName)) ∈ zGW := zw (zt4 (i := 100) rfl) rfl
set_option maxRecDepth 10000 in
theorem zwd821 : (Jvm.Cond.selects "RightTurns$Rules" ({ cls := "RightTurns$Rules", name := "startFrom", desc := "(LRightTurns$Town;)V" } : Jvm.MethodName) ({ cls := "RightTurns$Rules", name := "startFrom", desc := "(LRightTurns$Town;)V" } : Jvm.MethodName)) ∈ zGW := zw (zt4 (i := 101) rfl) rfl
set_option maxRecDepth 10000 in
theorem zwd822 : (Jvm.Cond.code ({ cls := "RightTurns$Rules", name := "startFrom", desc := "(LRightTurns$Town;)V" } : Jvm.MethodName) prog_9_method_2_code (2 : Nat) (Option.none : Option Jvm.ClassFile.FieldType)) ∈ zGW := zw (zt4 (i := 102) rfl) rfl
set_option maxRecDepth 10000 in
theorem zwd823 : (Jvm.Cond.methodLink "RightTurns$Rules" (24 : Nat) ({ cls := "java/lang/System", name := "arraycopy", desc := "(Ljava/lang/Object;ILjava/lang/Object;II)V" } : Jvm.MethodName)) ∈ zGW := zw (zt4 (i := 103) rfl) rfl
set_option maxRecDepth 10000 in
theorem zwd824 : (Jvm.Cond.methodLink "RightTurns$Changes" (31 : Nat) ({ cls := "java/lang/Math", name := "min", desc := "(II)I" } : Jvm.MethodName)) ∈ zGW := zw (zt4 (i := 104) rfl) rfl
set_option maxRecDepth 10000 in
theorem zwd825 : (Jvm.Cond.methodLink "RightTurns$Changes" (37 : Nat) ({ cls := "RightTurns$Rules", name := "flip", desc := "(III)V" } : Jvm.MethodName)) ∈ zGW := zw (zt4 (i := 105) rfl) rfl
set_option maxRecDepth 10000 in
theorem zwd826 : (Jvm.Cond.instanceMethod ({ cls := "RightTurns$Rules", name := "flip", desc := "(III)V" } : Jvm.MethodName)) ∈ zGW := zw (zt4 (i := 106) rfl) rfl
set_option maxRecDepth 10000 in
theorem zwd827 : (Jvm.Cond.selects "RightTurns$Rules" ({ cls := "RightTurns$Rules", name := "flip", desc := "(III)V" } : Jvm.MethodName) ({ cls := "RightTurns$Rules", name := "flip", desc := "(III)V" } : Jvm.MethodName)) ∈ zGW := zw (zt4 (i := 107) rfl) rfl
set_option maxRecDepth 10000 in
theorem zwd828 : (Jvm.Cond.code ({ cls := "RightTurns$Rules", name := "flip", desc := "(III)V" } : Jvm.MethodName) prog_9_method_3_code (4 : Nat) (Option.none : Option Jvm.ClassFile.FieldType)) ∈ zGW := zw (zt4 (i := 108) rfl) rfl
set_option maxRecDepth 10000 in
theorem zwd830 : (Jvm.Cond.methodLink "RightTurns$Changes" (41 : Nat) ({ cls := "RightTurns$Rules", name := "settle", desc := "(LRightTurns$Town;)V" } : Jvm.MethodName)) ∈ zGW := zw (zt4 (i := 110) rfl) rfl
set_option maxRecDepth 10000 in
theorem zwd831 : (Jvm.Cond.instanceMethod ({ cls := "RightTurns$Rules", name := "settle", desc := "(LRightTurns$Town;)V" } : Jvm.MethodName)) ∈ zGW := zw (zt4 (i := 111) rfl) rfl
set_option maxRecDepth 10000 in
theorem zwd832 : (Jvm.Cond.selects "RightTurns$Rules" ({ cls := "RightTurns$Rules", name := "settle", desc := "(LRightTurns$Town;)V" } : Jvm.MethodName) ({ cls := "RightTurns$Rules", name := "settle", desc := "(LRightTurns$Town;)V" } : Jvm.MethodName)) ∈ zGW := zw (zt4 (i := 112) rfl) rfl
set_option maxRecDepth 10000 in
theorem zwd833 : (Jvm.Cond.code ({ cls := "RightTurns$Rules", name := "settle", desc := "(LRightTurns$Town;)V" } : Jvm.MethodName) prog_9_method_5_code (5 : Nat) (Option.none : Option Jvm.ClassFile.FieldType)) ∈ zGW := zw (zt4 (i := 113) rfl) rfl
set_option maxRecDepth 10000 in
theorem zwd834 : (Jvm.Cond.constantLong "RightTurns$Rules" (46 : Nat) (-1 : Int64)) ∈ zGW := zw (zt4 (i := 114) rfl) rfl
set_option maxRecDepth 10000 in
theorem zwd835 : (Jvm.Cond.methodLink "RightTurns" (180 : Nat) ({ cls := "RightTurns", name := "has", desc := "(JI)Z" } : Jvm.MethodName)) ∈ zGW := zw (zt4 (i := 115) rfl) rfl
set_option maxRecDepth 10000 in
theorem zwd836 : (Jvm.Cond.methodLink "RightTurnsLaw" (157 : Nat) ({ cls := "RightTurnsLaw", name := "sign", desc := "(LRightTurns;IIZ[J)I" } : Jvm.MethodName)) ∈ zGW := zw (zt4 (i := 116) rfl) rfl
set_option maxRecDepth 10000 in
theorem zwd837 : (Jvm.Cond.static ({ cls := "RightTurnsLaw", name := "sign", desc := "(LRightTurns;IIZ[J)I" } : Jvm.MethodName)) ∈ zGW := zw (zt4 (i := 117) rfl) rfl
set_option maxRecDepth 10000 in
theorem zwd838 : (Jvm.Cond.codeWith ({ cls := "RightTurnsLaw", name := "sign", desc := "(LRightTurns;IIZ[J)I" } : Jvm.MethodName) method_8_code (6 : Nat) (Option.some Jvm.ClassFile.FieldType.int) [((0 : Nat), (12 : Nat), (15 : Nat), (22 : Nat)), ((0 : Nat), (12 : Nat), (19 : Nat), (13 : Nat))]) ∈ zGW := zw (zt4 (i := 118) rfl) rfl
set_option maxRecDepth 10000 in
theorem zwd839 : (Jvm.Cond.methodLink "RightTurnsLaw" (31 : Nat) ({ cls := "RightTurns", name := "sign", desc := "(IIZ)I" } : Jvm.MethodName)) ∈ zGW := zw (zt4 (i := 119) rfl) rfl
set_option maxRecDepth 10000 in
theorem zwd840 : (Jvm.Cond.instanceMethod ({ cls := "RightTurns", name := "sign", desc := "(IIZ)I" } : Jvm.MethodName)) ∈ zGW := zw (zt4 (i := 120) rfl) rfl
set_option maxRecDepth 10000 in
theorem zwd841 : (Jvm.Cond.selects "RightTurns" ({ cls := "RightTurns", name := "sign", desc := "(IIZ)I" } : Jvm.MethodName) ({ cls := "RightTurns", name := "sign", desc := "(IIZ)I" } : Jvm.MethodName)) ∈ zGW := zw (zt4 (i := 121) rfl) rfl
set_option maxRecDepth 10000 in
theorem zwd842 : (Jvm.Cond.code ({ cls := "RightTurns", name := "sign", desc := "(IIZ)I" } : Jvm.MethodName) prog_1_method_9_code (4 : Nat) (Option.some Jvm.ClassFile.FieldType.int)) ∈ zGW := zw (zt4 (i := 122) rfl) rfl
set_option maxRecDepth 10000 in
theorem zwd843 : (Jvm.Cond.methodLink "RightTurns" (184 : Nat) ({ cls := "RightTurns", name := "changeOf", desc := "(IIIZ)I" } : Jvm.MethodName)) ∈ zGW := zw (zt4 (i := 123) rfl) rfl
set_option maxRecDepth 10000 in
theorem zwd845 : (Jvm.Cond.instanceMethod ({ cls := "RightTurns", name := "changeOf", desc := "(IIIZ)I" } : Jvm.MethodName)) ∈ zGW := zw (zt4 (i := 125) rfl) rfl
set_option maxRecDepth 10000 in
theorem zwd846 : (Jvm.Cond.code ({ cls := "RightTurns", name := "changeOf", desc := "(IIIZ)I" } : Jvm.MethodName) prog_1_method_49_code (5 : Nat) (Option.some Jvm.ClassFile.FieldType.int)) ∈ zGW := zw (zt4 (i := 126) rfl) rfl
set_option maxRecDepth 10000 in
theorem zwd847 : (Jvm.Cond.methodLink "RightTurns" (384 : Nat) ({ cls := "RightTurns$Town", name := "meet", desc := "(II)Z" } : Jvm.MethodName)) ∈ zGW := zw (zt4 (i := 127) rfl) rfl
set_option maxRecDepth 10000 in
theorem zwd849 : (Jvm.Cond.methodLink "RightTurns" (195 : Nat) ({ cls := "RightTurns$Rules", name := "stand", desc := "(III)Z" } : Jvm.MethodName)) ∈ zGW := zw (zt4 (i := 129) rfl) rfl
set_option maxRecDepth 10000 in
theorem zwd850 : (Jvm.Cond.instanceMethod ({ cls := "RightTurns$Rules", name := "stand", desc := "(III)Z" } : Jvm.MethodName)) ∈ zGW := zw (zt4 (i := 130) rfl) rfl
set_option maxRecDepth 10000 in
theorem zwd851 : (Jvm.Cond.selects "RightTurns$Rules" ({ cls := "RightTurns$Rules", name := "stand", desc := "(III)Z" } : Jvm.MethodName) ({ cls := "RightTurns$Rules", name := "stand", desc := "(III)Z" } : Jvm.MethodName)) ∈ zGW := zw (zt4 (i := 131) rfl) rfl
set_option maxRecDepth 10000 in
theorem zwd852 : (Jvm.Cond.code ({ cls := "RightTurns$Rules", name := "stand", desc := "(III)Z" } : Jvm.MethodName) prog_9_method_4_code (4 : Nat) (Option.some Jvm.ClassFile.FieldType.boolean)) ∈ zGW := zw (zt4 (i := 132) rfl) rfl
set_option maxRecDepth 10000 in
theorem zwd854 : (Jvm.Cond.methodLink "RightTurns" (191 : Nat) ({ cls := "RightTurns$Changes", name := "note", desc := "(III)I" } : Jvm.MethodName)) ∈ zGW := zw (zt4 (i := 134) rfl) rfl
set_option maxRecDepth 10000 in
theorem zwd855 : (Jvm.Cond.instanceMethod ({ cls := "RightTurns$Changes", name := "note", desc := "(III)I" } : Jvm.MethodName)) ∈ zGW := zw (zt4 (i := 135) rfl) rfl
set_option maxRecDepth 10000 in
theorem zwd856 : (Jvm.Cond.selects "RightTurns$Changes" ({ cls := "RightTurns$Changes", name := "note", desc := "(III)I" } : Jvm.MethodName) ({ cls := "RightTurns$Changes", name := "note", desc := "(III)I" } : Jvm.MethodName)) ∈ zGW := zw (zt4 (i := 136) rfl) rfl
set_option maxRecDepth 10000 in
theorem zwd857 : (Jvm.Cond.code ({ cls := "RightTurns$Changes", name := "note", desc := "(III)I" } : Jvm.MethodName) prog_2_method_2_code (4 : Nat) (Option.some Jvm.ClassFile.FieldType.int)) ∈ zGW := zw (zt4 (i := 137) rfl) rfl
set_option maxRecDepth 10000 in
theorem zwd858 : (Jvm.Cond.methodLink "RightTurnsLaw" (161 : Nat) ({ cls := "RightTurnsLaw", name := "allow", desc := "(LRightTurns;IIZ[J)I" } : Jvm.MethodName)) ∈ zGW := zw (zt4 (i := 138) rfl) rfl
set_option maxRecDepth 10000 in
theorem zwd859 : (Jvm.Cond.static ({ cls := "RightTurnsLaw", name := "allow", desc := "(LRightTurns;IIZ[J)I" } : Jvm.MethodName)) ∈ zGW := zw (zt4 (i := 139) rfl) rfl
set_option maxRecDepth 10000 in
theorem zwd860 : (Jvm.Cond.codeWith ({ cls := "RightTurnsLaw", name := "allow", desc := "(LRightTurns;IIZ[J)I" } : Jvm.MethodName) method_9_code (6 : Nat) (Option.some Jvm.ClassFile.FieldType.int) [((0 : Nat), (12 : Nat), (15 : Nat), (22 : Nat)), ((0 : Nat), (12 : Nat), (19 : Nat), (13 : Nat))]) ∈ zGW := zw (zt4 (i := 140) rfl) rfl
set_option maxRecDepth 10000 in
theorem zwd861 : (Jvm.Cond.methodLink "RightTurnsLaw" (35 : Nat) ({ cls := "RightTurns", name := "allow", desc := "(IIZ)I" } : Jvm.MethodName)) ∈ zGW := zw (zt4 (i := 141) rfl) rfl
set_option maxRecDepth 10000 in
theorem zwd862 : (Jvm.Cond.instanceMethod ({ cls := "RightTurns", name := "allow", desc := "(IIZ)I" } : Jvm.MethodName)) ∈ zGW := zw (zt4 (i := 142) rfl) rfl
set_option maxRecDepth 10000 in
theorem zwd863 : (Jvm.Cond.selects "RightTurns" ({ cls := "RightTurns", name := "allow", desc := "(IIZ)I" } : Jvm.MethodName) ({ cls := "RightTurns", name := "allow", desc := "(IIZ)I" } : Jvm.MethodName)) ∈ zGW := zw (zt4 (i := 143) rfl) rfl
set_option maxRecDepth 10000 in
theorem zwd864 : (Jvm.Cond.code ({ cls := "RightTurns", name := "allow", desc := "(IIZ)I" } : Jvm.MethodName) prog_1_method_10_code (4 : Nat) (Option.some Jvm.ClassFile.FieldType.int)) ∈ zGW := zw (zt4 (i := 144) rfl) rfl
set_option maxRecDepth 10000 in
theorem zwd865 : (Jvm.Cond.methodLink "RightTurnsLaw" (164 : Nat) ({ cls := "RightTurnsLaw", name := "back", desc := "(LRightTurns;I[J)I" } : Jvm.MethodName)) ∈ zGW := zw (zt4 (i := 145) rfl) rfl
set_option maxRecDepth 10000 in
theorem zwd866 : (Jvm.Cond.static ({ cls := "RightTurnsLaw", name := "back", desc := "(LRightTurns;I[J)I" } : Jvm.MethodName)) ∈ zGW := zw (zt4 (i := 146) rfl) rfl
set_option maxRecDepth 10000 in
theorem zwd867 : (Jvm.Cond.codeWith ({ cls := "RightTurnsLaw", name := "back", desc := "(LRightTurns;I[J)I" } : Jvm.MethodName) method_10_code (4 : Nat) (Option.some Jvm.ClassFile.FieldType.int) [((0 : Nat), (9 : Nat), (12 : Nat), (13 : Nat))]) ∈ zGW := zw (zt4 (i := 147) rfl) rfl
set_option maxRecDepth 10000 in
theorem zwd868 : (Jvm.Cond.methodLink "RightTurnsLaw" (38 : Nat) ({ cls := "RightTurns", name := "back", desc := "(I)I" } : Jvm.MethodName)) ∈ zGW := zw (zt4 (i := 148) rfl) rfl
set_option maxRecDepth 10000 in
theorem zwd869 : (Jvm.Cond.instanceMethod ({ cls := "RightTurns", name := "back", desc := "(I)I" } : Jvm.MethodName)) ∈ zGW := zw (zt4 (i := 149) rfl) rfl
set_option maxRecDepth 10000 in
theorem zwd870 : (Jvm.Cond.selects "RightTurns" ({ cls := "RightTurns", name := "back", desc := "(I)I" } : Jvm.MethodName) ({ cls := "RightTurns", name := "back", desc := "(I)I" } : Jvm.MethodName)) ∈ zGW := zw (zt4 (i := 150) rfl) rfl
set_option maxRecDepth 10000 in
theorem zwd871 : (Jvm.Cond.code ({ cls := "RightTurns", name := "back", desc := "(I)I" } : Jvm.MethodName) prog_1_method_11_code (2 : Nat) (Option.some Jvm.ClassFile.FieldType.int)) ∈ zGW := zw (zt4 (i := 151) rfl) rfl
set_option maxRecDepth 10000 in
theorem zwd872 : (Jvm.Cond.methodLink "RightTurnsLaw" (167 : Nat) ({ cls := "RightTurnsLaw", name := "stands", desc := "(LRightTurns;IIII[J)I" } : Jvm.MethodName)) ∈ zGW := zw (zt4 (i := 152) rfl) rfl
set_option maxRecDepth 10000 in
theorem zwd873 : (Jvm.Cond.static ({ cls := "RightTurnsLaw", name := "stands", desc := "(LRightTurns;IIII[J)I" } : Jvm.MethodName)) ∈ zGW := zw (zt4 (i := 153) rfl) rfl
set_option maxRecDepth 10000 in
theorem zwd874 : (Jvm.Cond.codeWith ({ cls := "RightTurnsLaw", name := "stands", desc := "(LRightTurns;IIII[J)I" } : Jvm.MethodName) method_11_code (7 : Nat) (Option.some Jvm.ClassFile.FieldType.int) [((0 : Nat), (21 : Nat), (24 : Nat), (22 : Nat)), ((0 : Nat), (21 : Nat), (28 : Nat), (13 : Nat))]) ∈ zGW := zw (zt4 (i := 154) rfl) rfl
set_option maxRecDepth 10000 in
theorem zwd875 : (Jvm.Cond.methodLink "RightTurnsLaw" (41 : Nat) ({ cls := "RightTurns", name := "stands", desc := "(IIII)Z" } : Jvm.MethodName)) ∈ zGW := zw (zt4 (i := 155) rfl) rfl
set_option maxRecDepth 10000 in
theorem zwd876 : (Jvm.Cond.instanceMethod ({ cls := "RightTurns", name := "stands", desc := "(IIII)Z" } : Jvm.MethodName)) ∈ zGW := zw (zt4 (i := 156) rfl) rfl
set_option maxRecDepth 10000 in
theorem zwd877 : (Jvm.Cond.selects "RightTurns" ({ cls := "RightTurns", name := "stands", desc := "(IIII)Z" } : Jvm.MethodName) ({ cls := "RightTurns", name := "stands", desc := "(IIII)Z" } : Jvm.MethodName)) ∈ zGW := zw (zt4 (i := 157) rfl) rfl
set_option maxRecDepth 10000 in
theorem zwd878 : (Jvm.Cond.code ({ cls := "RightTurns", name := "stands", desc := "(IIII)Z" } : Jvm.MethodName) prog_1_method_12_code (5 : Nat) (Option.some Jvm.ClassFile.FieldType.boolean)) ∈ zGW := zw (zt4 (i := 158) rfl) rfl
set_option maxRecDepth 10000 in
theorem zwd879 : (Jvm.Cond.methodLink "RightTurnsLaw" (171 : Nat) ({ cls := "RightTurnsLaw", name := "ride", desc := "(LRightTurns;III[J)I" } : Jvm.MethodName)) ∈ zGW := zw (zt4 (i := 159) rfl) rfl
set_option maxRecDepth 10000 in
theorem zwd880 : (Jvm.Cond.static ({ cls := "RightTurnsLaw", name := "ride", desc := "(LRightTurns;III[J)I" } : Jvm.MethodName)) ∈ zGW := zw (zt4 (i := 160) rfl) rfl
set_option maxRecDepth 10000 in
theorem zwd881 : (Jvm.Cond.codeWith ({ cls := "RightTurnsLaw", name := "ride", desc := "(LRightTurns;III[J)I" } : Jvm.MethodName) method_12_code (6 : Nat) (Option.some Jvm.ClassFile.FieldType.int) [((0 : Nat), (12 : Nat), (15 : Nat), (49 : Nat)), ((0 : Nat), (12 : Nat), (19 : Nat), (13 : Nat))]) ∈ zGW := zw (zt4 (i := 161) rfl) rfl
set_option maxRecDepth 10000 in
theorem zwd883 : (Jvm.Cond.methodLink "RightTurnsLaw" (45 : Nat) ({ cls := "RightTurns", name := "ride", desc := "(III)I" } : Jvm.MethodName)) ∈ zGW := zw (zt4 (i := 163) rfl) rfl
set_option maxRecDepth 10000 in
theorem zwd884 : (Jvm.Cond.instanceMethod ({ cls := "RightTurns", name := "ride", desc := "(III)I" } : Jvm.MethodName)) ∈ zGW := zw (zt4 (i := 164) rfl) rfl
set_option maxRecDepth 10000 in
theorem zwd885 : (Jvm.Cond.selects "RightTurns" ({ cls := "RightTurns", name := "ride", desc := "(III)I" } : Jvm.MethodName) ({ cls := "RightTurns", name := "ride", desc := "(III)I" } : Jvm.MethodName)) ∈ zGW := zw (zt4 (i := 165) rfl) rfl
set_option maxRecDepth 10000 in
theorem zwd886 : (Jvm.Cond.code ({ cls := "RightTurns", name := "ride", desc := "(III)I" } : Jvm.MethodName) prog_1_method_13_code (4 : Nat) (Option.some Jvm.ClassFile.FieldType.int)) ∈ zGW := zw (zt4 (i := 166) rfl) rfl
set_option maxRecDepth 10000 in
theorem zwd887 : (Jvm.Cond.methodLink "RightTurns" (199 : Nat) ({ cls := "RightTurns", name := "needCorner", desc := "(I)V" } : Jvm.MethodName)) ∈ zGW := zw (zt4 (i := 167) rfl) rfl
set_option maxRecDepth 10000 in
theorem zwd889 : (Jvm.Cond.instanceMethod ({ cls := "RightTurns", name := "needCorner", desc := "(I)V" } : Jvm.MethodName)) ∈ zGW := zw (zt4 (i := 169) rfl) rfl
set_option maxRecDepth 10000 in
theorem zwd890 : (Jvm.Cond.code ({ cls := "RightTurns", name := "needCorner", desc := "(I)V" } : Jvm.MethodName) prog_1_method_44_code (2 : Nat) (Option.none : Option Jvm.ClassFile.FieldType)) ∈ zGW := zw (zt4 (i := 170) rfl) rfl
set_option maxRecDepth 10000 in
theorem zwd907 : (Jvm.Cond.methodLink "RightTurns" (202 : Nat) ({ cls := "RightTurns$Routes", name := "aim", desc := "(LRightTurns$Town;[JI)V" } : Jvm.MethodName)) ∈ zGW := zw (zt4 (i := 187) rfl) rfl
set_option maxRecDepth 10000 in
theorem zwd908 : (Jvm.Cond.instanceMethod ({ cls := "RightTurns$Routes", name := "aim", desc := "(LRightTurns$Town;[JI)V" } : Jvm.MethodName)) ∈ zGW := zw (zt4 (i := 188) rfl) rfl
set_option maxRecDepth 10000 in
theorem zwd909 : (Jvm.Cond.selects "RightTurns$Routes" ({ cls := "RightTurns$Routes", name := "aim", desc := "(LRightTurns$Town;[JI)V" } : Jvm.MethodName) ({ cls := "RightTurns$Routes", name := "aim", desc := "(LRightTurns$Town;[JI)V" } : Jvm.MethodName)) ∈ zGW := zw (zt4 (i := 189) rfl) rfl
set_option maxRecDepth 10000 in
theorem zwd910 : (Jvm.Cond.code ({ cls := "RightTurns$Routes", name := "aim", desc := "(LRightTurns$Town;[JI)V" } : Jvm.MethodName) prog_8_method_2_code (8 : Nat) (Option.none : Option Jvm.ClassFile.FieldType)) ∈ zGW := zw (zt4 (i := 190) rfl) rfl
set_option maxRecDepth 10000 in
theorem zwd912 : (Jvm.Cond.constant "RightTurns$Routes" (39 : Nat) (268435456 : Int32)) ∈ zGW := zw (zt4 (i := 192) rfl) rfl
set_option maxRecDepth 10000 in
theorem zwd913 : (Jvm.Cond.methodLink "RightTurns$Routes" (40 : Nat) ({ cls := "RightTurns$Routes", name := "nearest", desc := "(LRightTurns$Town;J)I" } : Jvm.MethodName)) ∈ zGW := zw (zt4 (i := 193) rfl) rfl
set_option maxRecDepth 10000 in
theorem zwd915 : (Jvm.Cond.instanceMethod ({ cls := "RightTurns$Routes", name := "nearest", desc := "(LRightTurns$Town;J)I" } : Jvm.MethodName)) ∈ zGW := zw (zt4 (i := 195) rfl) rfl
set_option maxRecDepth 10000 in
theorem zwd916 : (Jvm.Cond.code ({ cls := "RightTurns$Routes", name := "nearest", desc := "(LRightTurns$Town;J)I" } : Jvm.MethodName) prog_8_method_3_code (6 : Nat) (Option.some Jvm.ClassFile.FieldType.int)) ∈ zGW := zw (zt4 (i := 196) rfl) rfl
set_option maxRecDepth 10000 in
theorem zwd917 : (Jvm.Cond.constantLong "RightTurns$Routes" (44 : Nat) (-1 : Int64)) ∈ zGW := zw (zt4 (i := 197) rfl) rfl
set_option maxRecDepth 10000 in
theorem zwd918 : (Jvm.Cond.methodLink "RightTurns$Routes" (46 : Nat) ({ cls := "RightTurns$Routes", name := "spread", desc := "(LRightTurns$Town;[JIJ)V" } : Jvm.MethodName)) ∈ zGW := zw (zt4 (i := 198) rfl) rfl
set_option maxRecDepth 10000 in
theorem zwd920 : (Jvm.Cond.instanceMethod ({ cls := "RightTurns$Routes", name := "spread", desc := "(LRightTurns$Town;[JIJ)V" } : Jvm.MethodName)) ∈ zGW := zw (zt4 (i := 200) rfl) rfl
set_option maxRecDepth 10000 in
theorem zwd921 : (Jvm.Cond.code ({ cls := "RightTurns$Routes", name := "spread", desc := "(LRightTurns$Town;[JIJ)V" } : Jvm.MethodName) prog_8_method_4_code (10 : Nat) (Option.none : Option Jvm.ClassFile.FieldType)) ∈ zGW := zw (zt4 (i := 201) rfl) rfl
set_option maxRecDepth 10000 in
theorem zwd923 : (Jvm.Cond.static ({ cls := "RightTurns", name := "lowest", desc := "(J)I" } : Jvm.MethodName)) ∈ zGW := zw (zt4 (i := 203) rfl) rfl
set_option maxRecDepth 10000 in
theorem zwd924 : (Jvm.Cond.code ({ cls := "RightTurns", name := "lowest", desc := "(J)I" } : Jvm.MethodName) prog_1_method_51_code (2 : Nat) (Option.some Jvm.ClassFile.FieldType.int)) ∈ zGW := zw (zt4 (i := 204) rfl) rfl
set_option maxRecDepth 10000 in
theorem zwd925 : (Jvm.Cond.methodLink "RightTurns" (239 : Nat) ({ cls := "java/lang/Long", name := "bitCount", desc := "(J)I" } : Jvm.MethodName)) ∈ zGW := zw (zt4 (i := 205) rfl) rfl
set_option maxRecDepth 10000 in
theorem zwd926 : (Jvm.Cond.static ({ cls := "java/lang/Long", name := "bitCount", desc := "(J)I" } : Jvm.MethodName)) ∈ zGW := zw (zt4 (i := 206) rfl) rfl
set_option maxRecDepth 10000 in
theorem zwd927 : (Jvm.Cond.code ({ cls := "java/lang/Long", name := "bitCount", desc := "(J)I" } : Jvm.MethodName) prog_22_method_50_code (2 : Nat) (Option.some Jvm.ClassFile.FieldType.int)) ∈ zGW := zw (zt4 (i := 207) rfl) rfl
set_option maxRecDepth 10000 in
theorem zwd928 : (Jvm.Cond.constantLong "java/lang/Long" (314 : Nat) (6148914691236517205 : Int64)) ∈ zGW := zw (zt4 (i := 208) rfl) rfl
set_option maxRecDepth 10000 in
theorem zwd929 : (Jvm.Cond.constantLong "java/lang/Long" (316 : Nat) (3689348814741910323 : Int64)) ∈ zGW := zw (zt4 (i := 209) rfl) rfl
set_option maxRecDepth 10000 in
theorem zwd930 : (Jvm.Cond.constantLong "java/lang/Long" (318 : Nat) (1085102592571150095 : Int64)) ∈ zGW := zw (zt4 (i := 210) rfl) rfl
set_option maxRecDepth 10000 in
theorem zwd931 : (Jvm.Cond.methodLink "RightTurns$Routes" (60 : Nat) ({ cls := "java/lang/Math", name := "min", desc := "(II)I" } : Jvm.MethodName)) ∈ zGW := zw (zt4 (i := 211) rfl) rfl
set_option maxRecDepth 10000 in
theorem zwd932 : (Jvm.Cond.methodLink "RightTurns" (206 : Nat) ({ cls := "RightTurns$Routes", name := "lengthFrom", desc := "(LRightTurns$Town;I)I" } : Jvm.MethodName)) ∈ zGW := zw (zt4 (i := 212) rfl) rfl
set_option maxRecDepth 10000 in
theorem zwd933 : (Jvm.Cond.instanceMethod ({ cls := "RightTurns$Routes", name := "lengthFrom", desc := "(LRightTurns$Town;I)I" } : Jvm.MethodName)) ∈ zGW := zw (zt4 (i := 213) rfl) rfl
set_option maxRecDepth 10000 in
theorem zwd934 : (Jvm.Cond.selects "RightTurns$Routes" ({ cls := "RightTurns$Routes", name := "lengthFrom", desc := "(LRightTurns$Town;I)I" } : Jvm.MethodName) ({ cls := "RightTurns$Routes", name := "lengthFrom", desc := "(LRightTurns$Town;I)I" } : Jvm.MethodName)) ∈ zGW := zw (zt4 (i := 214) rfl) rfl
set_option maxRecDepth 10000 in
theorem zwd935 : (Jvm.Cond.code ({ cls := "RightTurns$Routes", name := "lengthFrom", desc := "(LRightTurns$Town;I)I" } : Jvm.MethodName) prog_8_method_5_code (4 : Nat) (Option.some Jvm.ClassFile.FieldType.int)) ∈ zGW := zw (zt4 (i := 215) rfl) rfl
set_option maxRecDepth 10000 in
theorem zwd936 : (Jvm.Cond.methodLink "RightTurns$Routes" (69 : Nat) ({ cls := "RightTurns$Routes", name := "leastOf", desc := "(J)I" } : Jvm.MethodName)) ∈ zGW := zw (zt4 (i := 216) rfl) rfl
set_option maxRecDepth 10000 in
theorem zwd938 : (Jvm.Cond.instanceMethod ({ cls := "RightTurns$Routes", name := "leastOf", desc := "(J)I" } : Jvm.MethodName)) ∈ zGW := zw (zt4 (i := 218) rfl) rfl
set_option maxRecDepth 10000 in
theorem zwd939 : (Jvm.Cond.code ({ cls := "RightTurns$Routes", name := "leastOf", desc := "(J)I" } : Jvm.MethodName) prog_8_method_7_code (5 : Nat) (Option.some Jvm.ClassFile.FieldType.int)) ∈ zGW := zw (zt4 (i := 219) rfl) rfl
set_option maxRecDepth 10000 in
theorem zwd940 : (Jvm.Cond.methodLink "RightTurns$Routes" (72 : Nat) ({ cls := "RightTurns$Routes", name := "firstOf", desc := "(JI)I" } : Jvm.MethodName)) ∈ zGW := zw (zt4 (i := 220) rfl) rfl
set_option maxRecDepth 10000 in
theorem zwd942 : (Jvm.Cond.instanceMethod ({ cls := "RightTurns$Routes", name := "firstOf", desc := "(JI)I" } : Jvm.MethodName)) ∈ zGW := zw (zt4 (i := 222) rfl) rfl
set_option maxRecDepth 10000 in
theorem zwd943 : (Jvm.Cond.code ({ cls := "RightTurns$Routes", name := "firstOf", desc := "(JI)I" } : Jvm.MethodName) prog_8_method_8_code (5 : Nat) (Option.some Jvm.ClassFile.FieldType.int)) ∈ zGW := zw (zt4 (i := 223) rfl) rfl
set_option maxRecDepth 10000 in
theorem zwd944 : (Jvm.Cond.methodLink "RightTurnsLaw" (174 : Nat) ({ cls := "RightTurnsLaw", name := "step", desc := "(LRightTurns;IIII[J)I" } : Jvm.MethodName)) ∈ zGW := zw (zt4 (i := 224) rfl) rfl
set_option maxRecDepth 10000 in
theorem zwd945 : (Jvm.Cond.static ({ cls := "RightTurnsLaw", name := "step", desc := "(LRightTurns;IIII[J)I" } : Jvm.MethodName)) ∈ zGW := zw (zt4 (i := 225) rfl) rfl
set_option maxRecDepth 10000 in
theorem zwd946 : (Jvm.Cond.codeWith ({ cls := "RightTurnsLaw", name := "step", desc := "(LRightTurns;IIII[J)I" } : Jvm.MethodName) method_13_code (7 : Nat) (Option.some Jvm.ClassFile.FieldType.int) [((0 : Nat), (14 : Nat), (17 : Nat), (49 : Nat)), ((0 : Nat), (14 : Nat), (21 : Nat), (13 : Nat))]) ∈ zGW := zw (zt4 (i := 226) rfl) rfl
set_option maxRecDepth 10000 in
theorem zwd947 : (Jvm.Cond.methodLink "RightTurnsLaw" (51 : Nat) ({ cls := "RightTurns", name := "step", desc := "(IIII)I" } : Jvm.MethodName)) ∈ zGW := zw (zt4 (i := 227) rfl) rfl
set_option maxRecDepth 10000 in
theorem zwd948 : (Jvm.Cond.instanceMethod ({ cls := "RightTurns", name := "step", desc := "(IIII)I" } : Jvm.MethodName)) ∈ zGW := zw (zt4 (i := 228) rfl) rfl
set_option maxRecDepth 10000 in
theorem zwd949 : (Jvm.Cond.selects "RightTurns" ({ cls := "RightTurns", name := "step", desc := "(IIII)I" } : Jvm.MethodName) ({ cls := "RightTurns", name := "step", desc := "(IIII)I" } : Jvm.MethodName)) ∈ zGW := zw (zt4 (i := 229) rfl) rfl
set_option maxRecDepth 10000 in
theorem zwd950 : (Jvm.Cond.code ({ cls := "RightTurns", name := "step", desc := "(IIII)I" } : Jvm.MethodName) prog_1_method_14_code (6 : Nat) (Option.some Jvm.ClassFile.FieldType.int)) ∈ zGW := zw (zt4 (i := 230) rfl) rfl
set_option maxRecDepth 10000 in
theorem zwd951 : (Jvm.Cond.methodLink "RightTurns" (210 : Nat) ({ cls := "RightTurns$Routes", name := "trace", desc := "(LRightTurns$Town;[JI)I" } : Jvm.MethodName)) ∈ zGW := zw (zt4 (i := 231) rfl) rfl
set_option maxRecDepth 10000 in
theorem zwd952 : (Jvm.Cond.instanceMethod ({ cls := "RightTurns$Routes", name := "trace", desc := "(LRightTurns$Town;[JI)I" } : Jvm.MethodName)) ∈ zGW := zw (zt4 (i := 232) rfl) rfl
set_option maxRecDepth 10000 in
theorem zwd953 : (Jvm.Cond.selects "RightTurns$Routes" ({ cls := "RightTurns$Routes", name := "trace", desc := "(LRightTurns$Town;[JI)I" } : Jvm.MethodName) ({ cls := "RightTurns$Routes", name := "trace", desc := "(LRightTurns$Town;[JI)I" } : Jvm.MethodName)) ∈ zGW := zw (zt4 (i := 233) rfl) rfl
set_option maxRecDepth 10000 in
theorem zwd954 : (Jvm.Cond.code ({ cls := "RightTurns$Routes", name := "trace", desc := "(LRightTurns$Town;[JI)I" } : Jvm.MethodName) prog_8_method_6_code (10 : Nat) (Option.some Jvm.ClassFile.FieldType.int)) ∈ zGW := zw (zt4 (i := 234) rfl) rfl
set_option maxRecDepth 10000 in
theorem zwd955 : (Jvm.Cond.methodLink "RightTurnsLaw" (177 : Nat) ({ cls := "RightTurnsLaw", name := "reach", desc := "(LRightTurns;III[J)I" } : Jvm.MethodName)) ∈ zGW := zw (zt4 (i := 235) rfl) rfl
set_option maxRecDepth 10000 in
theorem zwd956 : (Jvm.Cond.static ({ cls := "RightTurnsLaw", name := "reach", desc := "(LRightTurns;III[J)I" } : Jvm.MethodName)) ∈ zGW := zw (zt4 (i := 236) rfl) rfl
set_option maxRecDepth 10000 in
theorem zwd957 : (Jvm.Cond.codeWith ({ cls := "RightTurnsLaw", name := "reach", desc := "(LRightTurns;III[J)I" } : Jvm.MethodName) method_14_code (6 : Nat) (Option.some Jvm.ClassFile.FieldType.int) [((0 : Nat), (12 : Nat), (15 : Nat), (49 : Nat)), ((0 : Nat), (12 : Nat), (19 : Nat), (13 : Nat))]) ∈ zGW := zw (zt4 (i := 237) rfl) rfl
set_option maxRecDepth 10000 in
theorem zwd958 : (Jvm.Cond.methodLink "RightTurnsLaw" (55 : Nat) ({ cls := "RightTurns", name := "reach", desc := "(III)I" } : Jvm.MethodName)) ∈ zGW := zw (zt4 (i := 238) rfl) rfl
set_option maxRecDepth 10000 in
theorem zwd959 : (Jvm.Cond.instanceMethod ({ cls := "RightTurns", name := "reach", desc := "(III)I" } : Jvm.MethodName)) ∈ zGW := zw (zt4 (i := 239) rfl) rfl
set_option maxRecDepth 10000 in
theorem zwd960 : (Jvm.Cond.selects "RightTurns" ({ cls := "RightTurns", name := "reach", desc := "(III)I" } : Jvm.MethodName) ({ cls := "RightTurns", name := "reach", desc := "(III)I" } : Jvm.MethodName)) ∈ zGW := zw (zt5 (i := 0) rfl) rfl
set_option maxRecDepth 10000 in
theorem zwd961 : (Jvm.Cond.code ({ cls := "RightTurns", name := "reach", desc := "(III)I" } : Jvm.MethodName) prog_1_method_15_code (6 : Nat) (Option.some Jvm.ClassFile.FieldType.int)) ∈ zGW := zw (zt5 (i := 1) rfl) rfl
set_option maxRecDepth 10000 in
theorem zwd962 : (Jvm.Cond.methodLink "RightTurns" (217 : Nat) ({ cls := "RightTurns$Reach", name := "cornersFrom", desc := "(LRightTurns$Town;[JI)I" } : Jvm.MethodName)) ∈ zGW := zw (zt5 (i := 2) rfl) rfl
set_option maxRecDepth 10000 in
theorem zwd963 : (Jvm.Cond.static ({ cls := "RightTurns$Reach", name := "cornersFrom", desc := "(LRightTurns$Town;[JI)I" } : Jvm.MethodName)) ∈ zGW := zw (zt5 (i := 3) rfl) rfl
set_option maxRecDepth 10000 in
theorem zwd964 : (Jvm.Cond.code ({ cls := "RightTurns$Reach", name := "cornersFrom", desc := "(LRightTurns$Town;[JI)I" } : Jvm.MethodName) prog_6_method_3_code (7 : Nat) (Option.some Jvm.ClassFile.FieldType.int)) ∈ zGW := zw (zt5 (i := 4) rfl) rfl
set_option maxRecDepth 10000 in
theorem zwd965 : (Jvm.Cond.methodLink "RightTurns$Reach" (21 : Nat) ({ cls := "RightTurns$Reach", name := "arcsFrom", desc := "([JJ)J" } : Jvm.MethodName)) ∈ zGW := zw (zt5 (i := 5) rfl) rfl
set_option maxRecDepth 10000 in
theorem zwd966 : (Jvm.Cond.static ({ cls := "RightTurns$Reach", name := "arcsFrom", desc := "([JJ)J" } : Jvm.MethodName)) ∈ zGW := zw (zt5 (i := 6) rfl) rfl
set_option maxRecDepth 10000 in
theorem zwd967 : (Jvm.Cond.code ({ cls := "RightTurns$Reach", name := "arcsFrom", desc := "([JJ)J" } : Jvm.MethodName) prog_6_method_2_code (11 : Nat) (Option.some Jvm.ClassFile.FieldType.long)) ∈ zGW := zw (zt5 (i := 7) rfl) rfl
set_option maxRecDepth 10000 in
theorem zwd969 : (Jvm.Cond.constantLong "RightTurns$Reach" (13 : Nat) (-1 : Int64)) ∈ zGW := zw (zt5 (i := 9) rfl) rfl
set_option maxRecDepth 10000 in
theorem zwd970 : (Jvm.Cond.methodLink "RightTurns" (222 : Nat) ({ cls := "RightTurns$Reach", name := "cornersTo", desc := "(LRightTurns$Town;[JI)I" } : Jvm.MethodName)) ∈ zGW := zw (zt5 (i := 10) rfl) rfl
set_option maxRecDepth 10000 in
theorem zwd971 : (Jvm.Cond.static ({ cls := "RightTurns$Reach", name := "cornersTo", desc := "(LRightTurns$Town;[JI)I" } : Jvm.MethodName)) ∈ zGW := zw (zt5 (i := 11) rfl) rfl
set_option maxRecDepth 10000 in
theorem zwd972 : (Jvm.Cond.code ({ cls := "RightTurns$Reach", name := "cornersTo", desc := "(LRightTurns$Town;[JI)I" } : Jvm.MethodName) prog_6_method_4_code (5 : Nat) (Option.some Jvm.ClassFile.FieldType.int)) ∈ zGW := zw (zt5 (i := 12) rfl) rfl
set_option maxRecDepth 10000 in
theorem zwd973 : (Jvm.Cond.methodLink "RightTurns$Reach" (34 : Nat) ({ cls := "RightTurns$Reach", name := "cornersFrom", desc := "(LRightTurns$Town;[JI)I" } : Jvm.MethodName)) ∈ zGW := zw (zt5 (i := 13) rfl) rfl
set_option maxRecDepth 10000 in
theorem zwd974 : (Jvm.Cond.methodLink "RightTurnsLaw" (180 : Nat) ({ cls := "RightTurnsLaw", name := "parts", desc := "(LRightTurns;II[J)I" } : Jvm.MethodName)) ∈ zGW := zw (zt5 (i := 14) rfl) rfl
set_option maxRecDepth 10000 in
theorem zwd975 : (Jvm.Cond.static ({ cls := "RightTurnsLaw", name := "parts", desc := "(LRightTurns;II[J)I" } : Jvm.MethodName)) ∈ zGW := zw (zt5 (i := 15) rfl) rfl
set_option maxRecDepth 10000 in
theorem zwd976 : (Jvm.Cond.codeWith ({ cls := "RightTurnsLaw", name := "parts", desc := "(LRightTurns;II[J)I" } : Jvm.MethodName) method_15_code (5 : Nat) (Option.some Jvm.ClassFile.FieldType.int) [((0 : Nat), (10 : Nat), (13 : Nat), (13 : Nat))]) ∈ zGW := zw (zt5 (i := 16) rfl) rfl
set_option maxRecDepth 10000 in
theorem zwd977 : (Jvm.Cond.methodLink "RightTurnsLaw" (58 : Nat) ({ cls := "RightTurns", name := "parts", desc := "(II)I" } : Jvm.MethodName)) ∈ zGW := zw (zt5 (i := 17) rfl) rfl
set_option maxRecDepth 10000 in
theorem zwd978 : (Jvm.Cond.instanceMethod ({ cls := "RightTurns", name := "parts", desc := "(II)I" } : Jvm.MethodName)) ∈ zGW := zw (zt5 (i := 18) rfl) rfl
set_option maxRecDepth 10000 in
theorem zwd979 : (Jvm.Cond.selects "RightTurns" ({ cls := "RightTurns", name := "parts", desc := "(II)I" } : Jvm.MethodName) ({ cls := "RightTurns", name := "parts", desc := "(II)I" } : Jvm.MethodName)) ∈ zGW := zw (zt5 (i := 19) rfl) rfl
set_option maxRecDepth 10000 in
theorem zwd980 : (Jvm.Cond.code ({ cls := "RightTurns", name := "parts", desc := "(II)I" } : Jvm.MethodName) prog_1_method_16_code (10 : Nat) (Option.some Jvm.ClassFile.FieldType.int)) ∈ zGW := zw (zt5 (i := 20) rfl) rfl
set_option maxRecDepth 10000 in
theorem zwd981 : (Jvm.Cond.methodLink "RightTurns" (229 : Nat) ({ cls := "RightTurns", name := "lowest", desc := "(J)I" } : Jvm.MethodName)) ∈ zGW := zw (zt5 (i := 21) rfl) rfl
set_option maxRecDepth 10000 in
theorem zwd982 : (Jvm.Cond.methodLink "RightTurns" (233 : Nat) ({ cls := "RightTurns$Reach", name := "partOf", desc := "(LRightTurns$Town;[JI)J" } : Jvm.MethodName)) ∈ zGW := zw (zt5 (i := 22) rfl) rfl
set_option maxRecDepth 10000 in
theorem zwd983 : (Jvm.Cond.static ({ cls := "RightTurns$Reach", name := "partOf", desc := "(LRightTurns$Town;[JI)J" } : Jvm.MethodName)) ∈ zGW := zw (zt5 (i := 23) rfl) rfl
set_option maxRecDepth 10000 in
theorem zwd984 : (Jvm.Cond.code ({ cls := "RightTurns$Reach", name := "partOf", desc := "(LRightTurns$Town;[JI)J" } : Jvm.MethodName) prog_6_method_5_code (8 : Nat) (Option.some Jvm.ClassFile.FieldType.long)) ∈ zGW := zw (zt5 (i := 24) rfl) rfl
set_option maxRecDepth 10000 in
theorem zwd986 : (Jvm.Cond.constantLong "RightTurns" (237 : Nat) (-1 : Int64)) ∈ zGW := zw (zt5 (i := 26) rfl) rfl
set_option maxRecDepth 10000 in
theorem zwd987 : (Jvm.Cond.methodLink "RightTurns" (243 : Nat) ({ cls := "java/lang/Math", name := "max", desc := "(II)I" } : Jvm.MethodName)) ∈ zGW := zw (zt5 (i := 27) rfl) rfl
set_option maxRecDepth 10000 in
theorem zwd988 : (Jvm.Cond.static ({ cls := "java/lang/Math", name := "max", desc := "(II)I" } : Jvm.MethodName)) ∈ zGW := zw (zt5 (i := 28) rfl) rfl
set_option maxRecDepth 10000 in
theorem zwd989 : (Jvm.Cond.code ({ cls := "java/lang/Math", name := "max", desc := "(II)I" } : Jvm.MethodName) prog_23_method_65_code (2 : Nat) (Option.some Jvm.ClassFile.FieldType.int)) ∈ zGW := zw (zt5 (i := 29) rfl) rfl
set_option maxRecDepth 10000 in
theorem zwd990 : (Jvm.Cond.methodLink "RightTurnsLaw" (183 : Nat) ({ cls := "RightTurnsLaw", name := "together", desc := "(LRightTurns;III[J)I" } : Jvm.MethodName)) ∈ zGW := zw (zt5 (i := 30) rfl) rfl
set_option maxRecDepth 10000 in
theorem zwd991 : (Jvm.Cond.static ({ cls := "RightTurnsLaw", name := "together", desc := "(LRightTurns;III[J)I" } : Jvm.MethodName)) ∈ zGW := zw (zt5 (i := 31) rfl) rfl
set_option maxRecDepth 10000 in
theorem zwd992 : (Jvm.Cond.codeWith ({ cls := "RightTurnsLaw", name := "together", desc := "(LRightTurns;III[J)I" } : Jvm.MethodName) method_16_code (6 : Nat) (Option.some Jvm.ClassFile.FieldType.int) [((0 : Nat), (19 : Nat), (22 : Nat), (22 : Nat)), ((0 : Nat), (19 : Nat), (26 : Nat), (13 : Nat))]) ∈ zGW := zw (zt5 (i := 32) rfl) rfl
set_option maxRecDepth 10000 in
theorem zwd993 : (Jvm.Cond.methodLink "RightTurnsLaw" (61 : Nat) ({ cls := "RightTurns", name := "together", desc := "(III)Z" } : Jvm.MethodName)) ∈ zGW := zw (zt5 (i := 33) rfl) rfl
set_option maxRecDepth 10000 in
theorem zwd994 : (Jvm.Cond.instanceMethod ({ cls := "RightTurns", name := "together", desc := "(III)Z" } : Jvm.MethodName)) ∈ zGW := zw (zt5 (i := 34) rfl) rfl
set_option maxRecDepth 10000 in
theorem zwd995 : (Jvm.Cond.selects "RightTurns" ({ cls := "RightTurns", name := "together", desc := "(III)Z" } : Jvm.MethodName) ({ cls := "RightTurns", name := "together", desc := "(III)Z" } : Jvm.MethodName)) ∈ zGW := zw (zt5 (i := 35) rfl) rfl
set_option maxRecDepth 10000 in
theorem zwd996 : (Jvm.Cond.code ({ cls := "RightTurns", name := "together", desc := "(III)Z" } : Jvm.MethodName) prog_1_method_17_code (4 : Nat) (Option.some Jvm.ClassFile.FieldType.boolean)) ∈ zGW := zw (zt5 (i := 36) rfl) rfl
set_option maxRecDepth 10000 in
theorem zwd997 : (Jvm.Cond.methodLink "RightTurns" (248 : Nat) ({ cls := "RightTurns$Reach", name := "arcsFrom", desc := "([JJ)J" } : Jvm.MethodName)) ∈ zGW := zw (zt5 (i := 37) rfl) rfl
set_option maxRecDepth 10000 in
theorem zwd998 : (Jvm.Cond.methodLink "RightTurnsLaw" (186 : Nat) ({ cls := "RightTurnsLaw", name := "open", desc := "(LRightTurns;II[J)I" } : Jvm.MethodName)) ∈ zGW := zw (zt5 (i := 38) rfl) rfl
set_option maxRecDepth 10000 in
theorem zwd999 : (Jvm.Cond.static ({ cls := "RightTurnsLaw", name := "open", desc := "(LRightTurns;II[J)I" } : Jvm.MethodName)) ∈ zGW := zw (zt5 (i := 39) rfl) rfl
set_option maxRecDepth 10000 in
theorem zwd1000 : (Jvm.Cond.codeWith ({ cls := "RightTurnsLaw", name := "open", desc := "(LRightTurns;II[J)I" } : Jvm.MethodName) method_17_code (5 : Nat) (Option.some Jvm.ClassFile.FieldType.int) [((0 : Nat), (10 : Nat), (13 : Nat), (13 : Nat))]) ∈ zGW := zw (zt5 (i := 40) rfl) rfl
set_option maxRecDepth 10000 in
theorem zwd1001 : (Jvm.Cond.methodLink "RightTurnsLaw" (64 : Nat) ({ cls := "RightTurns", name := "open", desc := "(II)I" } : Jvm.MethodName)) ∈ zGW := zw (zt5 (i := 41) rfl) rfl
set_option maxRecDepth 10000 in
theorem zwd1002 : (Jvm.Cond.instanceMethod ({ cls := "RightTurns", name := "open", desc := "(II)I" } : Jvm.MethodName)) ∈ zGW := zw (zt5 (i := 42) rfl) rfl
set_option maxRecDepth 10000 in
theorem zwd1003 : (Jvm.Cond.selects "RightTurns" ({ cls := "RightTurns", name := "open", desc := "(II)I" } : Jvm.MethodName) ({ cls := "RightTurns", name := "open", desc := "(II)I" } : Jvm.MethodName)) ∈ zGW := zw (zt5 (i := 43) rfl) rfl
set_option maxRecDepth 10000 in
theorem zwd1004 : (Jvm.Cond.code ({ cls := "RightTurns", name := "open", desc := "(II)I" } : Jvm.MethodName) prog_1_method_18_code (4 : Nat) (Option.some Jvm.ClassFile.FieldType.int)) ∈ zGW := zw (zt5 (i := 44) rfl) rfl
set_option maxRecDepth 10000 in
theorem zwd1005 : (Jvm.Cond.methodLink "RightTurns" (252 : Nat) ({ cls := "RightTurns$Reach", name := "pairs", desc := "(LRightTurns$Town;[J)I" } : Jvm.MethodName)) ∈ zGW := zw (zt5 (i := 45) rfl) rfl
set_option maxRecDepth 10000 in
theorem zwd1006 : (Jvm.Cond.static ({ cls := "RightTurns$Reach", name := "pairs", desc := "(LRightTurns$Town;[J)I" } : Jvm.MethodName)) ∈ zGW := zw (zt5 (i := 46) rfl) rfl
set_option maxRecDepth 10000 in
theorem zwd1007 : (Jvm.Cond.code ({ cls := "RightTurns$Reach", name := "pairs", desc := "(LRightTurns$Town;[J)I" } : Jvm.MethodName) prog_6_method_6_code (4 : Nat) (Option.some Jvm.ClassFile.FieldType.int)) ∈ zGW := zw (zt5 (i := 47) rfl) rfl
set_option maxRecDepth 10000 in
theorem zwd1008 : (Jvm.Cond.methodLink "RightTurns$Reach" (45 : Nat) ({ cls := "java/lang/Integer", name := "bitCount", desc := "(I)I" } : Jvm.MethodName)) ∈ zGW := zw (zt5 (i := 48) rfl) rfl
set_option maxRecDepth 10000 in
theorem zwd1009 : (Jvm.Cond.methodLink "RightTurnsLaw" (189 : Nat) ({ cls := "RightTurnsLaw", name := "since", desc := "(LRightTurns;IIIZ[J)I" } : Jvm.MethodName)) ∈ zGW := zw (zt5 (i := 49) rfl) rfl
set_option maxRecDepth 10000 in
theorem zwd1010 : (Jvm.Cond.static ({ cls := "RightTurnsLaw", name := "since", desc := "(LRightTurns;IIIZ[J)I" } : Jvm.MethodName)) ∈ zGW := zw (zt5 (i := 50) rfl) rfl
set_option maxRecDepth 10000 in
theorem zwd1011 : (Jvm.Cond.codeWith ({ cls := "RightTurnsLaw", name := "since", desc := "(LRightTurns;IIIZ[J)I" } : Jvm.MethodName) method_18_code (7 : Nat) (Option.some Jvm.ClassFile.FieldType.int) [((0 : Nat), (14 : Nat), (17 : Nat), (49 : Nat)), ((0 : Nat), (14 : Nat), (21 : Nat), (13 : Nat))]) ∈ zGW := zw (zt5 (i := 51) rfl) rfl
set_option maxRecDepth 10000 in
theorem zwd1012 : (Jvm.Cond.methodLink "RightTurnsLaw" (67 : Nat) ({ cls := "RightTurns", name := "since", desc := "(IIIZ)I" } : Jvm.MethodName)) ∈ zGW := zw (zt5 (i := 52) rfl) rfl
set_option maxRecDepth 10000 in
theorem zwd1013 : (Jvm.Cond.instanceMethod ({ cls := "RightTurns", name := "since", desc := "(IIIZ)I" } : Jvm.MethodName)) ∈ zGW := zw (zt5 (i := 53) rfl) rfl
set_option maxRecDepth 10000 in
theorem zwd1014 : (Jvm.Cond.selects "RightTurns" ({ cls := "RightTurns", name := "since", desc := "(IIIZ)I" } : Jvm.MethodName) ({ cls := "RightTurns", name := "since", desc := "(IIIZ)I" } : Jvm.MethodName)) ∈ zGW := zw (zt5 (i := 54) rfl) rfl
set_option maxRecDepth 10000 in
theorem zwd1015 : (Jvm.Cond.code ({ cls := "RightTurns", name := "since", desc := "(IIIZ)I" } : Jvm.MethodName) prog_1_method_19_code (7 : Nat) (Option.some Jvm.ClassFile.FieldType.int)) ∈ zGW := zw (zt5 (i := 55) rfl) rfl
set_option maxRecDepth 10000 in
theorem zwd1016 : (Jvm.Cond.methodLink "RightTurnsLaw" (197 : Nat) ({ cls := "RightTurnsLaw", name := "candidates", desc := "(LRightTurns;I[J)I" } : Jvm.MethodName)) ∈ zGW := zw (zt5 (i := 56) rfl) rfl
set_option maxRecDepth 10000 in
theorem zwd1017 : (Jvm.Cond.static ({ cls := "RightTurnsLaw", name := "candidates", desc := "(LRightTurns;I[J)I" } : Jvm.MethodName)) ∈ zGW := zw (zt5 (i := 57) rfl) rfl
set_option maxRecDepth 10000 in
theorem zwd1018 : (Jvm.Cond.codeWith ({ cls := "RightTurnsLaw", name := "candidates", desc := "(LRightTurns;I[J)I" } : Jvm.MethodName) method_19_code (4 : Nat) (Option.some Jvm.ClassFile.FieldType.int) [((0 : Nat), (9 : Nat), (12 : Nat), (13 : Nat))]) ∈ zGW := zw (zt5 (i := 58) rfl) rfl
set_option maxRecDepth 10000 in
theorem zwd1019 : (Jvm.Cond.methodLink "RightTurnsLaw" (71 : Nat) ({ cls := "RightTurns", name := "candidates", desc := "(I)I" } : Jvm.MethodName)) ∈ zGW := zw (zt5 (i := 59) rfl) rfl
set_option maxRecDepth 10000 in
theorem zwd1020 : (Jvm.Cond.instanceMethod ({ cls := "RightTurns", name := "candidates", desc := "(I)I" } : Jvm.MethodName)) ∈ zGW := zw (zt5 (i := 60) rfl) rfl
set_option maxRecDepth 10000 in
theorem zwd1021 : (Jvm.Cond.selects "RightTurns" ({ cls := "RightTurns", name := "candidates", desc := "(I)I" } : Jvm.MethodName) ({ cls := "RightTurns", name := "candidates", desc := "(I)I" } : Jvm.MethodName)) ∈ zGW := zw (zt5 (i := 61) rfl) rfl
set_option maxRecDepth 10000 in
theorem zwd1022 : (Jvm.Cond.code ({ cls := "RightTurns", name := "candidates", desc := "(I)I" } : Jvm.MethodName) prog_1_method_21_code (2 : Nat) (Option.some Jvm.ClassFile.FieldType.int)) ∈ zGW := zw (zt5 (i := 62) rfl) rfl
set_option maxRecDepth 10000 in
theorem zwd1023 : (Jvm.Cond.methodLink "RightTurns" (263 : Nat) ({ cls := "RightTurns$Choices", name := "find", desc := "(LRightTurns$Town;LRightTurns$Rules;)V" } : Jvm.MethodName)) ∈ zGW := zw (zt5 (i := 63) rfl) rfl
set_option maxRecDepth 10000 in
theorem zwd1024 : (Jvm.Cond.instanceMethod ({ cls := "RightTurns$Choices", name := "find", desc := "(LRightTurns$Town;LRightTurns$Rules;)V" } : Jvm.MethodName)) ∈ zGW := zw (zt5 (i := 64) rfl) rfl
set_option maxRecDepth 10000 in
theorem zwd1025 : (Jvm.Cond.selects "RightTurns$Choices" ({ cls := "RightTurns$Choices", name := "find", desc := "(LRightTurns$Town;LRightTurns$Rules;)V" } : Jvm.MethodName) ({ cls := "RightTurns$Choices", name := "find", desc := "(LRightTurns$Town;LRightTurns$Rules;)V" } : Jvm.MethodName)) ∈ zGW := zw (zt5 (i := 65) rfl) rfl
set_option maxRecDepth 10000 in
theorem zwd1026 : (Jvm.Cond.code ({ cls := "RightTurns$Choices", name := "find", desc := "(LRightTurns$Town;LRightTurns$Rules;)V" } : Jvm.MethodName) prog_3_method_2_code (4 : Nat) (Option.none : Option Jvm.ClassFile.FieldType)) ∈ zGW := zw (zt5 (i := 66) rfl) rfl
set_option maxRecDepth 10000 in
theorem zwd1027 : (Jvm.Cond.methodLink "RightTurns$Choices" (40 : Nat) ({ cls := "RightTurns$Choices", name := "isRidden", desc := "(LRightTurns$Town;LRightTurns$Rules;I)Z" } : Jvm.MethodName)) ∈ zGW := zw (zt5 (i := 67) rfl) rfl
set_option maxRecDepth 10000 in
theorem zwd1028 : (Jvm.Cond.static ({ cls := "RightTurns$Choices", name := "isRidden", desc := "(LRightTurns$Town;LRightTurns$Rules;I)Z" } : Jvm.MethodName)) ∈ zGW := zw (zt5 (i := 68) rfl) rfl
set_option maxRecDepth 10000 in
theorem zwd1029 : (Jvm.Cond.code ({ cls := "RightTurns$Choices", name := "isRidden", desc := "(LRightTurns$Town;LRightTurns$Rules;I)Z" } : Jvm.MethodName) prog_3_method_12_code (4 : Nat) (Option.some Jvm.ClassFile.FieldType.boolean)) ∈ zGW := zw (zt5 (i := 69) rfl) rfl
set_option maxRecDepth 10000 in
theorem zwd1030 : (Jvm.Cond.methodLink "RightTurns$Choices" (118 : Nat) ({ cls := "RightTurns$Rules", name := "stand", desc := "(III)Z" } : Jvm.MethodName)) ∈ zGW := zw (zt5 (i := 70) rfl) rfl
set_option maxRecDepth 10000 in
theorem zwd1031 : (Jvm.Cond.methodLink "RightTurns$Choices" (44 : Nat) ({ cls := "RightTurns$Choices", name := "isUnsigned", desc := "(LRightTurns$Town;LRightTurns$Rules;I)Z" } : Jvm.MethodName)) ∈ zGW := zw (zt5 (i := 71) rfl) rfl
set_option maxRecDepth 10000 in
theorem zwd1032 : (Jvm.Cond.static ({ cls := "RightTurns$Choices", name := "isUnsigned", desc := "(LRightTurns$Town;LRightTurns$Rules;I)Z" } : Jvm.MethodName)) ∈ zGW := zw (zt5 (i := 72) rfl) rfl
set_option maxRecDepth 10000 in
theorem zwd1033 : (Jvm.Cond.code ({ cls := "RightTurns$Choices", name := "isUnsigned", desc := "(LRightTurns$Town;LRightTurns$Rules;I)Z" } : Jvm.MethodName) prog_3_method_13_code (4 : Nat) (Option.some Jvm.ClassFile.FieldType.boolean)) ∈ zGW := zw (zt5 (i := 73) rfl) rfl
set_option maxRecDepth 10000 in
theorem zwd1034 : (Jvm.Cond.methodLink "RightTurnsLaw" (200 : Nat) ({ cls := "RightTurnsLaw", name := "fewest", desc := "(LRightTurns;II[J)I" } : Jvm.MethodName)) ∈ zGW := zw (zt5 (i := 74) rfl) rfl
set_option maxRecDepth 10000 in
theorem zwd1035 : (Jvm.Cond.static ({ cls := "RightTurnsLaw", name := "fewest", desc := "(LRightTurns;II[J)I" } : Jvm.MethodName)) ∈ zGW := zw (zt5 (i := 75) rfl) rfl
set_option maxRecDepth 10000 in
theorem zwd1036 : (Jvm.Cond.codeWith ({ cls := "RightTurnsLaw", name := "fewest", desc := "(LRightTurns;II[J)I" } : Jvm.MethodName) method_20_code (5 : Nat) (Option.some Jvm.ClassFile.FieldType.int) [((0 : Nat), (10 : Nat), (13 : Nat), (13 : Nat))]) ∈ zGW := zw (zt5 (i := 76) rfl) rfl
set_option maxRecDepth 10000 in
theorem zwd1037 : (Jvm.Cond.methodLink "RightTurnsLaw" (74 : Nat) ({ cls := "RightTurns", name := "fewest", desc := "(II)I" } : Jvm.MethodName)) ∈ zGW := zw (zt5 (i := 77) rfl) rfl
set_option maxRecDepth 10000 in
theorem zwd1038 : (Jvm.Cond.instanceMethod ({ cls := "RightTurns", name := "fewest", desc := "(II)I" } : Jvm.MethodName)) ∈ zGW := zw (zt5 (i := 78) rfl) rfl
set_option maxRecDepth 10000 in
theorem zwd1039 : (Jvm.Cond.selects "RightTurns" ({ cls := "RightTurns", name := "fewest", desc := "(II)I" } : Jvm.MethodName) ({ cls := "RightTurns", name := "fewest", desc := "(II)I" } : Jvm.MethodName)) ∈ zGW := zw (zt5 (i := 79) rfl) rfl
set_option maxRecDepth 10000 in
theorem zwd1040 : (Jvm.Cond.code ({ cls := "RightTurns", name := "fewest", desc := "(II)I" } : Jvm.MethodName) prog_1_method_22_code (3 : Nat) (Option.some Jvm.ClassFile.FieldType.int)) ∈ zGW := zw (zt5 (i := 80) rfl) rfl
set_option maxRecDepth 10000 in
theorem zwd1041 : (Jvm.Cond.methodLink "RightTurns" (273 : Nat) ({ cls := "java/util/Arrays", name := "fill", desc := "([II)V" } : Jvm.MethodName)) ∈ zGW := zw (zt5 (i := 81) rfl) rfl
set_option maxRecDepth 10000 in
theorem zwd1042 : (Jvm.Cond.static ({ cls := "java/util/Arrays", name := "fill", desc := "([II)V" } : Jvm.MethodName)) ∈ zGW := zw (zt5 (i := 82) rfl) rfl
set_option maxRecDepth 10000 in
theorem zwd1043 : (Jvm.Cond.code ({ cls := "java/util/Arrays", name := "fill", desc := "([II)V" } : Jvm.MethodName) prog_32_method_103_code (4 : Nat) (Option.none : Option Jvm.ClassFile.FieldType)) ∈ zGW := zw (zt5 (i := 83) rfl) rfl
set_option maxRecDepth 10000 in
theorem zwd1044 : (Jvm.Cond.methodLink "RightTurns" (279 : Nat) ({ cls := "RightTurns$Choices", name := "searchLeast", desc := "(LRightTurns$Town;LRightTurns$Rules;)V" } : Jvm.MethodName)) ∈ zGW := zw (zt5 (i := 84) rfl) rfl
set_option maxRecDepth 10000 in
theorem zwd1045 : (Jvm.Cond.instanceMethod ({ cls := "RightTurns$Choices", name := "searchLeast", desc := "(LRightTurns$Town;LRightTurns$Rules;)V" } : Jvm.MethodName)) ∈ zGW := zw (zt5 (i := 85) rfl) rfl
set_option maxRecDepth 10000 in
theorem zwd1046 : (Jvm.Cond.selects "RightTurns$Choices" ({ cls := "RightTurns$Choices", name := "searchLeast", desc := "(LRightTurns$Town;LRightTurns$Rules;)V" } : Jvm.MethodName) ({ cls := "RightTurns$Choices", name := "searchLeast", desc := "(LRightTurns$Town;LRightTurns$Rules;)V" } : Jvm.MethodName)) ∈ zGW := zw (zt5 (i := 86) rfl) rfl
set_option maxRecDepth 10000 in
theorem zwd1047 : (Jvm.Cond.code ({ cls := "RightTurns$Choices", name := "searchLeast", desc := "(LRightTurns$Town;LRightTurns$Rules;)V" } : Jvm.MethodName) prog_3_method_4_code (9 : Nat) (Option.none : Option Jvm.ClassFile.FieldType)) ∈ zGW := zw (zt5 (i := 87) rfl) rfl
set_option maxRecDepth 10000 in
theorem zwd1048 : (Jvm.Cond.methodLink "RightTurns$Choices" (53 : Nat) ({ cls := "RightTurns$Choices", name := "opens", desc := "(LRightTurns$Town;LRightTurns$Rules;I)Z" } : Jvm.MethodName)) ∈ zGW := zw (zt5 (i := 88) rfl) rfl
set_option maxRecDepth 10000 in
theorem zwd1050 : (Jvm.Cond.instanceMethod ({ cls := "RightTurns$Choices", name := "opens", desc := "(LRightTurns$Town;LRightTurns$Rules;I)Z" } : Jvm.MethodName)) ∈ zGW := zw (zt5 (i := 90) rfl) rfl
set_option maxRecDepth 10000 in
theorem zwd1051 : (Jvm.Cond.code ({ cls := "RightTurns$Choices", name := "opens", desc := "(LRightTurns$Town;LRightTurns$Rules;I)Z" } : Jvm.MethodName) prog_3_method_9_code (6 : Nat) (Option.some Jvm.ClassFile.FieldType.boolean)) ∈ zGW := zw (zt5 (i := 91) rfl) rfl
set_option maxRecDepth 10000 in
theorem zwd1052 : (Jvm.Cond.methodLink "RightTurns$Choices" (73 : Nat) ({ cls := "RightTurns$Choices", name := "put", desc := "(LRightTurns$Town;LRightTurns$Rules;I)V" } : Jvm.MethodName)) ∈ zGW := zw (zt5 (i := 92) rfl) rfl
set_option maxRecDepth 10000 in
theorem zwd1054 : (Jvm.Cond.instanceMethod ({ cls := "RightTurns$Choices", name := "put", desc := "(LRightTurns$Town;LRightTurns$Rules;I)V" } : Jvm.MethodName)) ∈ zGW := zw (zt5 (i := 94) rfl) rfl
set_option maxRecDepth 10000 in
theorem zwd1055 : (Jvm.Cond.code ({ cls := "RightTurns$Choices", name := "put", desc := "(LRightTurns$Town;LRightTurns$Rules;I)V" } : Jvm.MethodName) prog_3_method_10_code (8 : Nat) (Option.none : Option Jvm.ClassFile.FieldType)) ∈ zGW := zw (zt5 (i := 95) rfl) rfl
set_option maxRecDepth 10000 in
theorem zwd1056 : (Jvm.Cond.methodLink "RightTurns$Choices" (103 : Nat) ({ cls := "java/lang/System", name := "arraycopy", desc := "(Ljava/lang/Object;ILjava/lang/Object;II)V" } : Jvm.MethodName)) ∈ zGW := zw (zt5 (i := 96) rfl) rfl
set_option maxRecDepth 10000 in
theorem zwd1058 : (Jvm.Cond.methodLink "RightTurns$Choices" (99 : Nat) ({ cls := "RightTurns$Reach", name := "cornersFrom", desc := "(LRightTurns$Town;[JI)I" } : Jvm.MethodName)) ∈ zGW := zw (zt5 (i := 98) rfl) rfl
set_option maxRecDepth 10000 in
theorem zwd1059 : (Jvm.Cond.methodLink "RightTurns$Choices" (56 : Nat) ({ cls := "RightTurns$Choices", name := "sumOf", desc := "(I)I" } : Jvm.MethodName)) ∈ zGW := zw (zt5 (i := 99) rfl) rfl
set_option maxRecDepth 10000 in
theorem zwd1061 : (Jvm.Cond.instanceMethod ({ cls := "RightTurns$Choices", name := "sumOf", desc := "(I)I" } : Jvm.MethodName)) ∈ zGW := zw (zt5 (i := 101) rfl) rfl
set_option maxRecDepth 10000 in
theorem zwd1062 : (Jvm.Cond.code ({ cls := "RightTurns$Choices", name := "sumOf", desc := "(I)I" } : Jvm.MethodName) prog_3_method_8_code (4 : Nat) (Option.some Jvm.ClassFile.FieldType.int)) ∈ zGW := zw (zt5 (i := 102) rfl) rfl
set_option maxRecDepth 10000 in
theorem zwd1063 : (Jvm.Cond.methodLink "RightTurnsLaw" (203 : Nat) ({ cls := "RightTurnsLaw", name := "cheapest", desc := "(LRightTurns;II[J)I" } : Jvm.MethodName)) ∈ zGW := zw (zt5 (i := 103) rfl) rfl
set_option maxRecDepth 10000 in
theorem zwd1064 : (Jvm.Cond.static ({ cls := "RightTurnsLaw", name := "cheapest", desc := "(LRightTurns;II[J)I" } : Jvm.MethodName)) ∈ zGW := zw (zt5 (i := 104) rfl) rfl
set_option maxRecDepth 10000 in
theorem zwd1065 : (Jvm.Cond.codeWith ({ cls := "RightTurnsLaw", name := "cheapest", desc := "(LRightTurns;II[J)I" } : Jvm.MethodName) method_21_code (5 : Nat) (Option.some Jvm.ClassFile.FieldType.int) [((0 : Nat), (10 : Nat), (13 : Nat), (13 : Nat))]) ∈ zGW := zw (zt5 (i := 105) rfl) rfl
set_option maxRecDepth 10000 in
theorem zwd1066 : (Jvm.Cond.methodLink "RightTurnsLaw" (77 : Nat) ({ cls := "RightTurns", name := "cheapest", desc := "(II)I" } : Jvm.MethodName)) ∈ zGW := zw (zt5 (i := 106) rfl) rfl
set_option maxRecDepth 10000 in
theorem zwd1067 : (Jvm.Cond.instanceMethod ({ cls := "RightTurns", name := "cheapest", desc := "(II)I" } : Jvm.MethodName)) ∈ zGW := zw (zt5 (i := 107) rfl) rfl
set_option maxRecDepth 10000 in
theorem zwd1068 : (Jvm.Cond.selects "RightTurns" ({ cls := "RightTurns", name := "cheapest", desc := "(II)I" } : Jvm.MethodName) ({ cls := "RightTurns", name := "cheapest", desc := "(II)I" } : Jvm.MethodName)) ∈ zGW := zw (zt5 (i := 108) rfl) rfl
set_option maxRecDepth 10000 in
theorem zwd1069 : (Jvm.Cond.code ({ cls := "RightTurns", name := "cheapest", desc := "(II)I" } : Jvm.MethodName) prog_1_method_23_code (3 : Nat) (Option.some Jvm.ClassFile.FieldType.int)) ∈ zGW := zw (zt5 (i := 109) rfl) rfl
set_option maxRecDepth 10000 in
theorem zwd1070 : (Jvm.Cond.methodLink "RightTurns" (288 : Nat) ({ cls := "RightTurns$Choices", name := "setPrices", desc := "(LRightTurns$Town;)V" } : Jvm.MethodName)) ∈ zGW := zw (zt5 (i := 110) rfl) rfl
set_option maxRecDepth 10000 in
theorem zwd1071 : (Jvm.Cond.instanceMethod ({ cls := "RightTurns$Choices", name := "setPrices", desc := "(LRightTurns$Town;)V" } : Jvm.MethodName)) ∈ zGW := zw (zt5 (i := 111) rfl) rfl
set_option maxRecDepth 10000 in
theorem zwd1072 : (Jvm.Cond.selects "RightTurns$Choices" ({ cls := "RightTurns$Choices", name := "setPrices", desc := "(LRightTurns$Town;)V" } : Jvm.MethodName) ({ cls := "RightTurns$Choices", name := "setPrices", desc := "(LRightTurns$Town;)V" } : Jvm.MethodName)) ∈ zGW := zw (zt5 (i := 112) rfl) rfl
set_option maxRecDepth 10000 in
theorem zwd1073 : (Jvm.Cond.code ({ cls := "RightTurns$Choices", name := "setPrices", desc := "(LRightTurns$Town;)V" } : Jvm.MethodName) prog_3_method_3_code (5 : Nat) (Option.none : Option Jvm.ClassFile.FieldType)) ∈ zGW := zw (zt5 (i := 113) rfl) rfl
set_option maxRecDepth 10000 in
theorem zwd1074 : (Jvm.Cond.methodLink "RightTurnsLaw" (206 : Nat) ({ cls := "RightTurnsLaw", name := "exchange", desc := "(LRightTurns;II[J)I" } : Jvm.MethodName)) ∈ zGW := zw (zt5 (i := 114) rfl) rfl
set_option maxRecDepth 10000 in
theorem zwd1075 : (Jvm.Cond.static ({ cls := "RightTurnsLaw", name := "exchange", desc := "(LRightTurns;II[J)I" } : Jvm.MethodName)) ∈ zGW := zw (zt5 (i := 115) rfl) rfl
set_option maxRecDepth 10000 in
theorem zwd1076 : (Jvm.Cond.codeWith ({ cls := "RightTurnsLaw", name := "exchange", desc := "(LRightTurns;II[J)I" } : Jvm.MethodName) method_22_code (5 : Nat) (Option.some Jvm.ClassFile.FieldType.int) [((0 : Nat), (10 : Nat), (13 : Nat), (13 : Nat))]) ∈ zGW := zw (zt5 (i := 116) rfl) rfl
set_option maxRecDepth 10000 in
theorem zwd1077 : (Jvm.Cond.methodLink "RightTurnsLaw" (80 : Nat) ({ cls := "RightTurns", name := "exchange", desc := "(II)I" } : Jvm.MethodName)) ∈ zGW := zw (zt5 (i := 117) rfl) rfl
set_option maxRecDepth 10000 in
theorem zwd1078 : (Jvm.Cond.instanceMethod ({ cls := "RightTurns", name := "exchange", desc := "(II)I" } : Jvm.MethodName)) ∈ zGW := zw (zt5 (i := 118) rfl) rfl
set_option maxRecDepth 10000 in
theorem zwd1079 : (Jvm.Cond.selects "RightTurns" ({ cls := "RightTurns", name := "exchange", desc := "(II)I" } : Jvm.MethodName) ({ cls := "RightTurns", name := "exchange", desc := "(II)I" } : Jvm.MethodName)) ∈ zGW := zw (zt5 (i := 119) rfl) rfl
set_option maxRecDepth 10000 in
theorem zwd1080 : (Jvm.Cond.code ({ cls := "RightTurns", name := "exchange", desc := "(II)I" } : Jvm.MethodName) prog_1_method_24_code (3 : Nat) (Option.some Jvm.ClassFile.FieldType.int)) ∈ zGW := zw (zt5 (i := 120) rfl) rfl
set_option maxRecDepth 10000 in
theorem zwd1081 : (Jvm.Cond.methodLink "RightTurns" (292 : Nat) ({ cls := "RightTurns$Choices", name := "searchExchange", desc := "(LRightTurns$Town;LRightTurns$Rules;)V" } : Jvm.MethodName)) ∈ zGW := zw (zt5 (i := 121) rfl) rfl
set_option maxRecDepth 10000 in
theorem zwd1082 : (Jvm.Cond.instanceMethod ({ cls := "RightTurns$Choices", name := "searchExchange", desc := "(LRightTurns$Town;LRightTurns$Rules;)V" } : Jvm.MethodName)) ∈ zGW := zw (zt5 (i := 122) rfl) rfl
set_option maxRecDepth 10000 in
theorem zwd1083 : (Jvm.Cond.selects "RightTurns$Choices" ({ cls := "RightTurns$Choices", name := "searchExchange", desc := "(LRightTurns$Town;LRightTurns$Rules;)V" } : Jvm.MethodName) ({ cls := "RightTurns$Choices", name := "searchExchange", desc := "(LRightTurns$Town;LRightTurns$Rules;)V" } : Jvm.MethodName)) ∈ zGW := zw (zt5 (i := 123) rfl) rfl
set_option maxRecDepth 10000 in
theorem zwd1084 : (Jvm.Cond.code ({ cls := "RightTurns$Choices", name := "searchExchange", desc := "(LRightTurns$Town;LRightTurns$Rules;)V" } : Jvm.MethodName) prog_3_method_5_code (4 : Nat) (Option.none : Option Jvm.ClassFile.FieldType)) ∈ zGW := zw (zt5 (i := 124) rfl) rfl
set_option maxRecDepth 10000 in
theorem zwd1085 : (Jvm.Cond.methodLink "RightTurns$Choices" (63 : Nat) ({ cls := "RightTurns$Reach", name := "pairs", desc := "(LRightTurns$Town;[J)I" } : Jvm.MethodName)) ∈ zGW := zw (zt5 (i := 125) rfl) rfl
set_option maxRecDepth 10000 in
theorem zwd1086 : (Jvm.Cond.methodLink "RightTurns$Choices" (69 : Nat) ({ cls := "RightTurns$Choices", name := "exchangeFor", desc := "(LRightTurns$Town;LRightTurns$Rules;I)V" } : Jvm.MethodName)) ∈ zGW := zw (zt5 (i := 126) rfl) rfl
set_option maxRecDepth 10000 in
theorem zwd1088 : (Jvm.Cond.instanceMethod ({ cls := "RightTurns$Choices", name := "exchangeFor", desc := "(LRightTurns$Town;LRightTurns$Rules;I)V" } : Jvm.MethodName)) ∈ zGW := zw (zt5 (i := 128) rfl) rfl
set_option maxRecDepth 10000 in
theorem zwd1089 : (Jvm.Cond.code ({ cls := "RightTurns$Choices", name := "exchangeFor", desc := "(LRightTurns$Town;LRightTurns$Rules;I)V" } : Jvm.MethodName) prog_3_method_6_code (6 : Nat) (Option.none : Option Jvm.ClassFile.FieldType)) ∈ zGW := zw (zt5 (i := 129) rfl) rfl
set_option maxRecDepth 10000 in
theorem zwd1090 : (Jvm.Cond.methodLink "RightTurns$Choices" (76 : Nat) ({ cls := "RightTurns$Choices", name := "remove", desc := "(LRightTurns$Town;I)V" } : Jvm.MethodName)) ∈ zGW := zw (zt5 (i := 130) rfl) rfl
set_option maxRecDepth 10000 in
theorem zwd1092 : (Jvm.Cond.instanceMethod ({ cls := "RightTurns$Choices", name := "remove", desc := "(LRightTurns$Town;I)V" } : Jvm.MethodName)) ∈ zGW := zw (zt5 (i := 132) rfl) rfl
set_option maxRecDepth 10000 in
theorem zwd1093 : (Jvm.Cond.code ({ cls := "RightTurns$Choices", name := "remove", desc := "(LRightTurns$Town;I)V" } : Jvm.MethodName) prog_3_method_11_code (6 : Nat) (Option.none : Option Jvm.ClassFile.FieldType)) ∈ zGW := zw (zt5 (i := 133) rfl) rfl
set_option maxRecDepth 10000 in
theorem zwd1094 : (Jvm.Cond.constantLong "RightTurns$Choices" (116 : Nat) (-1 : Int64)) ∈ zGW := zw (zt5 (i := 134) rfl) rfl
set_option maxRecDepth 10000 in
theorem zwd1095 : (Jvm.Cond.methodLink "RightTurnsLaw" (209 : Nat) ({ cls := "RightTurnsLaw", name := "round", desc := "(LRightTurns;II[J)I" } : Jvm.MethodName)) ∈ zGW := zw (zt5 (i := 135) rfl) rfl
set_option maxRecDepth 10000 in
theorem zwd1096 : (Jvm.Cond.static ({ cls := "RightTurnsLaw", name := "round", desc := "(LRightTurns;II[J)I" } : Jvm.MethodName)) ∈ zGW := zw (zt5 (i := 136) rfl) rfl
set_option maxRecDepth 10000 in
theorem zwd1097 : (Jvm.Cond.codeWith ({ cls := "RightTurnsLaw", name := "round", desc := "(LRightTurns;II[J)I" } : Jvm.MethodName) method_23_code (5 : Nat) (Option.some Jvm.ClassFile.FieldType.int) [((0 : Nat), (10 : Nat), (13 : Nat), (49 : Nat)), ((0 : Nat), (10 : Nat), (17 : Nat), (13 : Nat))]) ∈ zGW := zw (zt5 (i := 137) rfl) rfl
set_option maxRecDepth 10000 in
theorem zwd1098 : (Jvm.Cond.methodLink "RightTurnsLaw" (83 : Nat) ({ cls := "RightTurns", name := "round", desc := "(II)I" } : Jvm.MethodName)) ∈ zGW := zw (zt5 (i := 138) rfl) rfl
set_option maxRecDepth 10000 in
theorem zwd1099 : (Jvm.Cond.instanceMethod ({ cls := "RightTurns", name := "round", desc := "(II)I" } : Jvm.MethodName)) ∈ zGW := zw (zt5 (i := 139) rfl) rfl
set_option maxRecDepth 10000 in
theorem zwd1100 : (Jvm.Cond.selects "RightTurns" ({ cls := "RightTurns", name := "round", desc := "(II)I" } : Jvm.MethodName) ({ cls := "RightTurns", name := "round", desc := "(II)I" } : Jvm.MethodName)) ∈ zGW := zw (zt5 (i := 140) rfl) rfl
set_option maxRecDepth 10000 in
theorem zwd1101 : (Jvm.Cond.code ({ cls := "RightTurns", name := "round", desc := "(II)I" } : Jvm.MethodName) prog_1_method_25_code (3 : Nat) (Option.some Jvm.ClassFile.FieldType.int)) ∈ zGW := zw (zt5 (i := 141) rfl) rfl
set_option maxRecDepth 10000 in
theorem zwd1102 : (Jvm.Cond.methodLink "RightTurns" (295 : Nat) ({ cls := "RightTurns$Post", name := "leastRound", desc := "(LRightTurns$Town;[JI)I" } : Jvm.MethodName)) ∈ zGW := zw (zt5 (i := 142) rfl) rfl
set_option maxRecDepth 10000 in
theorem zwd1103 : (Jvm.Cond.instanceMethod ({ cls := "RightTurns$Post", name := "leastRound", desc := "(LRightTurns$Town;[JI)I" } : Jvm.MethodName)) ∈ zGW := zw (zt5 (i := 143) rfl) rfl
set_option maxRecDepth 10000 in
theorem zwd1104 : (Jvm.Cond.selects "RightTurns$Post" ({ cls := "RightTurns$Post", name := "leastRound", desc := "(LRightTurns$Town;[JI)I" } : Jvm.MethodName) ({ cls := "RightTurns$Post", name := "leastRound", desc := "(LRightTurns$Town;[JI)I" } : Jvm.MethodName)) ∈ zGW := zw (zt5 (i := 144) rfl) rfl
set_option maxRecDepth 10000 in
theorem zwd1105 : (Jvm.Cond.code ({ cls := "RightTurns$Post", name := "leastRound", desc := "(LRightTurns$Town;[JI)I" } : Jvm.MethodName) prog_5_method_2_code (7 : Nat) (Option.some Jvm.ClassFile.FieldType.int)) ∈ zGW := zw (zt5 (i := 145) rfl) rfl
set_option maxRecDepth 10000 in
theorem zwd1106 : (Jvm.Cond.methodLink "RightTurns$Post" (34 : Nat) ({ cls := "RightTurns$Post", name := "listStops", desc := "(LRightTurns$Town;IZ)V" } : Jvm.MethodName)) ∈ zGW := zw (zt5 (i := 146) rfl) rfl
set_option maxRecDepth 10000 in
theorem zwd1108 : (Jvm.Cond.instanceMethod ({ cls := "RightTurns$Post", name := "listStops", desc := "(LRightTurns$Town;IZ)V" } : Jvm.MethodName)) ∈ zGW := zw (zt5 (i := 148) rfl) rfl
set_option maxRecDepth 10000 in
theorem zwd1109 : (Jvm.Cond.code ({ cls := "RightTurns$Post", name := "listStops", desc := "(LRightTurns$Town;IZ)V" } : Jvm.MethodName) prog_5_method_8_code (6 : Nat) (Option.none : Option Jvm.ClassFile.FieldType)) ∈ zGW := zw (zt5 (i := 149) rfl) rfl
set_option maxRecDepth 10000 in
theorem zwd1110 : (Jvm.Cond.methodLink "RightTurns$Post" (38 : Nat) ({ cls := "RightTurns$Post", name := "measure", desc := "(LRightTurns$Town;[J)V" } : Jvm.MethodName)) ∈ zGW := zw (zt5 (i := 150) rfl) rfl
set_option maxRecDepth 10000 in
theorem zwd1112 : (Jvm.Cond.instanceMethod ({ cls := "RightTurns$Post", name := "measure", desc := "(LRightTurns$Town;[J)V" } : Jvm.MethodName)) ∈ zGW := zw (zt5 (i := 152) rfl) rfl
set_option maxRecDepth 10000 in
theorem zwd1113 : (Jvm.Cond.code ({ cls := "RightTurns$Post", name := "measure", desc := "(LRightTurns$Town;[J)V" } : Jvm.MethodName) prog_5_method_10_code (6 : Nat) (Option.none : Option Jvm.ClassFile.FieldType)) ∈ zGW := zw (zt5 (i := 153) rfl) rfl
set_option maxRecDepth 10000 in
theorem zwd1114 : (Jvm.Cond.methodLink "RightTurns$Post" (86 : Nat) ({ cls := "RightTurns$Post", name := "makeBetween", desc := "()V" } : Jvm.MethodName)) ∈ zGW := zw (zt5 (i := 154) rfl) rfl
set_option maxRecDepth 10000 in
theorem zwd1116 : (Jvm.Cond.instanceMethod ({ cls := "RightTurns$Post", name := "makeBetween", desc := "()V" } : Jvm.MethodName)) ∈ zGW := zw (zt5 (i := 156) rfl) rfl
set_option maxRecDepth 10000 in
theorem zwd1117 : (Jvm.Cond.code ({ cls := "RightTurns$Post", name := "makeBetween", desc := "()V" } : Jvm.MethodName) prog_5_method_12_code (1 : Nat) (Option.none : Option Jvm.ClassFile.FieldType)) ∈ zGW := zw (zt5 (i := 157) rfl) rfl
set_option maxRecDepth 10000 in
theorem zwd1119 : (Jvm.Cond.constant "RightTurns$Post" (57 : Nat) (268435456 : Int32)) ∈ zGW := zw (zt5 (i := 159) rfl) rfl
set_option maxRecDepth 10000 in
theorem zwd1120 : (Jvm.Cond.methodLink "RightTurns$Post" (114 : Nat) ({ cls := "RightTurns$Post", name := "shortenBy", desc := "(III)V" } : Jvm.MethodName)) ∈ zGW := zw (zt5 (i := 160) rfl) rfl
set_option maxRecDepth 10000 in
theorem zwd1122 : (Jvm.Cond.instanceMethod ({ cls := "RightTurns$Post", name := "shortenBy", desc := "(III)V" } : Jvm.MethodName)) ∈ zGW := zw (zt5 (i := 162) rfl) rfl
set_option maxRecDepth 10000 in
theorem zwd1123 : (Jvm.Cond.code ({ cls := "RightTurns$Post", name := "shortenBy", desc := "(III)V" } : Jvm.MethodName) prog_5_method_11_code (7 : Nat) (Option.none : Option Jvm.ClassFile.FieldType)) ∈ zGW := zw (zt5 (i := 163) rfl) rfl
set_option maxRecDepth 10000 in
theorem zwd1124 : (Jvm.Cond.methodLink "RightTurns$Post" (42 : Nat) ({ cls := "RightTurns$Post", name := "listEnding", desc := "(LRightTurns$Town;)V" } : Jvm.MethodName)) ∈ zGW := zw (zt5 (i := 164) rfl) rfl
set_option maxRecDepth 10000 in
theorem zwd1126 : (Jvm.Cond.instanceMethod ({ cls := "RightTurns$Post", name := "listEnding", desc := "(LRightTurns$Town;)V" } : Jvm.MethodName)) ∈ zGW := zw (zt5 (i := 166) rfl) rfl
set_option maxRecDepth 10000 in
theorem zwd1127 : (Jvm.Cond.code ({ cls := "RightTurns$Post", name := "listEnding", desc := "(LRightTurns$Town;)V" } : Jvm.MethodName) prog_5_method_9_code (4 : Nat) (Option.none : Option Jvm.ClassFile.FieldType)) ∈ zGW := zw (zt5 (i := 167) rfl) rfl
set_option maxRecDepth 10000 in
theorem zwd1128 : (Jvm.Cond.methodLink "RightTurns$Post" (46 : Nat) ({ cls := "RightTurns$Post", name := "clearBest", desc := "(I)V" } : Jvm.MethodName)) ∈ zGW := zw (zt5 (i := 168) rfl) rfl
set_option maxRecDepth 10000 in
theorem zwd1130 : (Jvm.Cond.instanceMethod ({ cls := "RightTurns$Post", name := "clearBest", desc := "(I)V" } : Jvm.MethodName)) ∈ zGW := zw (zt5 (i := 170) rfl) rfl
set_option maxRecDepth 10000 in
theorem zwd1131 : (Jvm.Cond.code ({ cls := "RightTurns$Post", name := "clearBest", desc := "(I)V" } : Jvm.MethodName) prog_5_method_13_code (3 : Nat) (Option.none : Option Jvm.ClassFile.FieldType)) ∈ zGW := zw (zt5 (i := 171) rfl) rfl
set_option maxRecDepth 10000 in
theorem zwd1132 : (Jvm.Cond.methodLink "RightTurns$Post" (118 : Nat) ({ cls := "RightTurns$Post", name := "makeRoom", desc := "(I)V" } : Jvm.MethodName)) ∈ zGW := zw (zt5 (i := 172) rfl) rfl
set_option maxRecDepth 10000 in
theorem zwd1134 : (Jvm.Cond.instanceMethod ({ cls := "RightTurns$Post", name := "makeRoom", desc := "(I)V" } : Jvm.MethodName)) ∈ zGW := zw (zt5 (i := 174) rfl) rfl
set_option maxRecDepth 10000 in
theorem zwd1135 : (Jvm.Cond.code ({ cls := "RightTurns$Post", name := "makeRoom", desc := "(I)V" } : Jvm.MethodName) prog_5_method_14_code (4 : Nat) (Option.none : Option Jvm.ClassFile.FieldType)) ∈ zGW := zw (zt5 (i := 175) rfl) rfl
set_option maxRecDepth 10000 in
theorem zwd1136 : (Jvm.Cond.methodLink "RightTurns$Post" (121 : Nat) ({ cls := "java/lang/Math", name := "max", desc := "(II)I" } : Jvm.MethodName)) ∈ zGW := zw (zt5 (i := 176) rfl) rfl
set_option maxRecDepth 10000 in
theorem zwd1137 : (Jvm.Cond.methodLink "RightTurns$Post" (50 : Nat) ({ cls := "RightTurns$Post", name := "fromCorner", desc := "(LRightTurns$Town;II)I" } : Jvm.MethodName)) ∈ zGW := zw (zt5 (i := 177) rfl) rfl
set_option maxRecDepth 10000 in
theorem zwd1139 : (Jvm.Cond.instanceMethod ({ cls := "RightTurns$Post", name := "fromCorner", desc := "(LRightTurns$Town;II)I" } : Jvm.MethodName)) ∈ zGW := zw (zt5 (i := 179) rfl) rfl
set_option maxRecDepth 10000 in
theorem zwd1140 : (Jvm.Cond.code ({ cls := "RightTurns$Post", name := "fromCorner", desc := "(LRightTurns$Town;II)I" } : Jvm.MethodName) prog_5_method_4_code (7 : Nat) (Option.some Jvm.ClassFile.FieldType.int)) ∈ zGW := zw (zt5 (i := 180) rfl) rfl
set_option maxRecDepth 10000 in
theorem zwd1141 : (Jvm.Cond.methodLink "RightTurns$Post" (61 : Nat) ({ cls := "java/lang/Math", name := "min", desc := "(II)I" } : Jvm.MethodName)) ∈ zGW := zw (zt5 (i := 181) rfl) rfl
set_option maxRecDepth 10000 in
theorem zwd1142 : (Jvm.Cond.methodLink "RightTurns$Post" (54 : Nat) ({ cls := "RightTurns$Post", name := "goOnFrom", desc := "(I)V" } : Jvm.MethodName)) ∈ zGW := zw (zt5 (i := 182) rfl) rfl
set_option maxRecDepth 10000 in
theorem zwd1144 : (Jvm.Cond.instanceMethod ({ cls := "RightTurns$Post", name := "goOnFrom", desc := "(I)V" } : Jvm.MethodName)) ∈ zGW := zw (zt5 (i := 184) rfl) rfl
set_option maxRecDepth 10000 in
theorem zwd1145 : (Jvm.Cond.code ({ cls := "RightTurns$Post", name := "goOnFrom", desc := "(I)V" } : Jvm.MethodName) prog_5_method_3_code (6 : Nat) (Option.none : Option Jvm.ClassFile.FieldType)) ∈ zGW := zw (zt5 (i := 185) rfl) rfl
set_option maxRecDepth 10000 in
theorem zwd1146 : (Jvm.Cond.methodLink "RightTurns$Post" (58 : Nat) ({ cls := "RightTurns$Post", name := "toCorner", desc := "(LRightTurns$Town;II)I" } : Jvm.MethodName)) ∈ zGW := zw (zt5 (i := 186) rfl) rfl
set_option maxRecDepth 10000 in
theorem zwd1148 : (Jvm.Cond.instanceMethod ({ cls := "RightTurns$Post", name := "toCorner", desc := "(LRightTurns$Town;II)I" } : Jvm.MethodName)) ∈ zGW := zw (zt5 (i := 188) rfl) rfl
set_option maxRecDepth 10000 in
theorem zwd1149 : (Jvm.Cond.code ({ cls := "RightTurns$Post", name := "toCorner", desc := "(LRightTurns$Town;II)I" } : Jvm.MethodName) prog_5_method_5_code (6 : Nat) (Option.some Jvm.ClassFile.FieldType.int)) ∈ zGW := zw (zt5 (i := 189) rfl) rfl
set_option maxRecDepth 10000 in
theorem zwd1150 : (Jvm.Cond.methodLink "RightTurnsLaw" (212 : Nat) ({ cls := "RightTurnsLaw", name := "bound", desc := "(LRightTurns;II[J)I" } : Jvm.MethodName)) ∈ zGW := zw (zt5 (i := 190) rfl) rfl
set_option maxRecDepth 10000 in
theorem zwd1151 : (Jvm.Cond.static ({ cls := "RightTurnsLaw", name := "bound", desc := "(LRightTurns;II[J)I" } : Jvm.MethodName)) ∈ zGW := zw (zt5 (i := 191) rfl) rfl
set_option maxRecDepth 10000 in
theorem zwd1152 : (Jvm.Cond.codeWith ({ cls := "RightTurnsLaw", name := "bound", desc := "(LRightTurns;II[J)I" } : Jvm.MethodName) method_24_code (5 : Nat) (Option.some Jvm.ClassFile.FieldType.int) [((0 : Nat), (10 : Nat), (13 : Nat), (49 : Nat)), ((0 : Nat), (10 : Nat), (17 : Nat), (13 : Nat))]) ∈ zGW := zw (zt5 (i := 192) rfl) rfl
set_option maxRecDepth 10000 in
theorem zwd1153 : (Jvm.Cond.methodLink "RightTurnsLaw" (86 : Nat) ({ cls := "RightTurns", name := "bound", desc := "(II)I" } : Jvm.MethodName)) ∈ zGW := zw (zt5 (i := 193) rfl) rfl
set_option maxRecDepth 10000 in
theorem zwd1154 : (Jvm.Cond.instanceMethod ({ cls := "RightTurns", name := "bound", desc := "(II)I" } : Jvm.MethodName)) ∈ zGW := zw (zt5 (i := 194) rfl) rfl
set_option maxRecDepth 10000 in
theorem zwd1155 : (Jvm.Cond.selects "RightTurns" ({ cls := "RightTurns", name := "bound", desc := "(II)I" } : Jvm.MethodName) ({ cls := "RightTurns", name := "bound", desc := "(II)I" } : Jvm.MethodName)) ∈ zGW := zw (zt5 (i := 195) rfl) rfl
set_option maxRecDepth 10000 in
theorem zwd1156 : (Jvm.Cond.code ({ cls := "RightTurns", name := "bound", desc := "(II)I" } : Jvm.MethodName) prog_1_method_26_code (3 : Nat) (Option.some Jvm.ClassFile.FieldType.int)) ∈ zGW := zw (zt5 (i := 196) rfl) rfl
set_option maxRecDepth 10000 in
theorem zwd1157 : (Jvm.Cond.methodLink "RightTurns" (298 : Nat) ({ cls := "RightTurns$Post", name := "leastBound", desc := "(LRightTurns$Town;[JILRightTurns$Routes;)I" } : Jvm.MethodName)) ∈ zGW := zw (zt5 (i := 197) rfl) rfl
set_option maxRecDepth 10000 in
theorem zwd1158 : (Jvm.Cond.instanceMethod ({ cls := "RightTurns$Post", name := "leastBound", desc := "(LRightTurns$Town;[JILRightTurns$Routes;)I" } : Jvm.MethodName)) ∈ zGW := zw (zt5 (i := 198) rfl) rfl
set_option maxRecDepth 10000 in
theorem zwd1159 : (Jvm.Cond.selects "RightTurns$Post" ({ cls := "RightTurns$Post", name := "leastBound", desc := "(LRightTurns$Town;[JILRightTurns$Routes;)I" } : Jvm.MethodName) ({ cls := "RightTurns$Post", name := "leastBound", desc := "(LRightTurns$Town;[JILRightTurns$Routes;)I" } : Jvm.MethodName)) ∈ zGW := zw (zt5 (i := 199) rfl) rfl
set_option maxRecDepth 10000 in
theorem zwd1160 : (Jvm.Cond.code ({ cls := "RightTurns$Post", name := "leastBound", desc := "(LRightTurns$Town;[JILRightTurns$Routes;)I" } : Jvm.MethodName) prog_5_method_6_code (9 : Nat) (Option.some Jvm.ClassFile.FieldType.int)) ∈ zGW := zw (zt5 (i := 200) rfl) rfl
set_option maxRecDepth 10000 in
theorem zwd1161 : (Jvm.Cond.methodLink "RightTurns$Post" (89 : Nat) ({ cls := "RightTurns$Routes", name := "aim", desc := "(LRightTurns$Town;[JI)V" } : Jvm.MethodName)) ∈ zGW := zw (zt5 (i := 201) rfl) rfl
set_option maxRecDepth 10000 in
theorem zwd1162 : (Jvm.Cond.methodLink "RightTurns$Post" (95 : Nat) ({ cls := "RightTurns$Routes", name := "lengthFrom", desc := "(LRightTurns$Town;I)I" } : Jvm.MethodName)) ∈ zGW := zw (zt5 (i := 202) rfl) rfl
set_option maxRecDepth 10000 in
theorem zwd1163 : (Jvm.Cond.methodLink "RightTurns$Post" (99 : Nat) ({ cls := "RightTurns$Post", name := "takeOneMore", desc := "(I)V" } : Jvm.MethodName)) ∈ zGW := zw (zt5 (i := 203) rfl) rfl
set_option maxRecDepth 10000 in
theorem zwd1165 : (Jvm.Cond.instanceMethod ({ cls := "RightTurns$Post", name := "takeOneMore", desc := "(I)V" } : Jvm.MethodName)) ∈ zGW := zw (zt5 (i := 205) rfl) rfl
set_option maxRecDepth 10000 in
theorem zwd1166 : (Jvm.Cond.code ({ cls := "RightTurns$Post", name := "takeOneMore", desc := "(I)V" } : Jvm.MethodName) prog_5_method_7_code (5 : Nat) (Option.none : Option Jvm.ClassFile.FieldType)) ∈ zGW := zw (zt5 (i := 206) rfl) rfl
set_option maxRecDepth 10000 in
theorem zwd1167 : (Jvm.Cond.methodLink "RightTurns$Post" (102 : Nat) ({ cls := "java/lang/Integer", name := "bitCount", desc := "(I)I" } : Jvm.MethodName)) ∈ zGW := zw (zt5 (i := 207) rfl) rfl
set_option maxRecDepth 10000 in
theorem zwd1168 : (Jvm.Cond.methodLink "RightTurnsLaw" (215 : Nat) ({ cls := "RightTurnsLaw", name := "home", desc := "(LRightTurns;I[J)I" } : Jvm.MethodName)) ∈ zGW := zw (zt5 (i := 208) rfl) rfl
set_option maxRecDepth 10000 in
theorem zwd1169 : (Jvm.Cond.static ({ cls := "RightTurnsLaw", name := "home", desc := "(LRightTurns;I[J)I" } : Jvm.MethodName)) ∈ zGW := zw (zt5 (i := 209) rfl) rfl
set_option maxRecDepth 10000 in
theorem zwd1170 : (Jvm.Cond.codeWith ({ cls := "RightTurnsLaw", name := "home", desc := "(LRightTurns;I[J)I" } : Jvm.MethodName) method_25_code (4 : Nat) (Option.some Jvm.ClassFile.FieldType.int) [((0 : Nat), (9 : Nat), (12 : Nat), (13 : Nat))]) ∈ zGW := zw (zt5 (i := 210) rfl) rfl
set_option maxRecDepth 10000 in
theorem zwd1171 : (Jvm.Cond.methodLink "RightTurnsLaw" (89 : Nat) ({ cls := "RightTurns", name := "home", desc := "(I)I" } : Jvm.MethodName)) ∈ zGW := zw (zt5 (i := 211) rfl) rfl
set_option maxRecDepth 10000 in
theorem zwd1172 : (Jvm.Cond.instanceMethod ({ cls := "RightTurns", name := "home", desc := "(I)I" } : Jvm.MethodName)) ∈ zGW := zw (zt5 (i := 212) rfl) rfl
set_option maxRecDepth 10000 in
theorem zwd1173 : (Jvm.Cond.selects "RightTurns" ({ cls := "RightTurns", name := "home", desc := "(I)I" } : Jvm.MethodName) ({ cls := "RightTurns", name := "home", desc := "(I)I" } : Jvm.MethodName)) ∈ zGW := zw (zt5 (i := 213) rfl) rfl
set_option maxRecDepth 10000 in
theorem zwd1174 : (Jvm.Cond.code ({ cls := "RightTurns", name := "home", desc := "(I)I" } : Jvm.MethodName) prog_1_method_27_code (2 : Nat) (Option.some Jvm.ClassFile.FieldType.int)) ∈ zGW := zw (zt5 (i := 214) rfl) rfl
set_option maxRecDepth 10000 in
theorem zwd1176 : (Jvm.Cond.methodLink "RightTurns" (304 : Nat) ({ cls := "RightTurns", name := "letRide", desc := "()V" } : Jvm.MethodName)) ∈ zGW := zw (zt5 (i := 216) rfl) rfl
set_option maxRecDepth 10000 in
theorem zwd1178 : (Jvm.Cond.instanceMethod ({ cls := "RightTurns", name := "letRide", desc := "()V" } : Jvm.MethodName)) ∈ zGW := zw (zt5 (i := 218) rfl) rfl
set_option maxRecDepth 10000 in
theorem zwd1179 : (Jvm.Cond.code ({ cls := "RightTurns", name := "letRide", desc := "()V" } : Jvm.MethodName) prog_1_method_48_code (1 : Nat) (Option.none : Option Jvm.ClassFile.FieldType)) ∈ zGW := zw (zt5 (i := 219) rfl) rfl
set_option maxRecDepth 10000 in
theorem zwd1180 : (Jvm.Cond.methodLink "RightTurns" (323 : Nat) ({ cls := "RightTurns$Traffic", name := "plan", desc := "(LRightTurns$Town;[JLRightTurns$Routes;)V" } : Jvm.MethodName)) ∈ zGW := zw (zt5 (i := 220) rfl) rfl
set_option maxRecDepth 10000 in
theorem zwd1181 : (Jvm.Cond.instanceMethod ({ cls := "RightTurns$Traffic", name := "plan", desc := "(LRightTurns$Town;[JLRightTurns$Routes;)V" } : Jvm.MethodName)) ∈ zGW := zw (zt5 (i := 221) rfl) rfl
set_option maxRecDepth 10000 in
theorem zwd1182 : (Jvm.Cond.selects "RightTurns$Traffic" ({ cls := "RightTurns$Traffic", name := "plan", desc := "(LRightTurns$Town;[JLRightTurns$Routes;)V" } : Jvm.MethodName) ({ cls := "RightTurns$Traffic", name := "plan", desc := "(LRightTurns$Town;[JLRightTurns$Routes;)V" } : Jvm.MethodName)) ∈ zGW := zw (zt5 (i := 222) rfl) rfl
set_option maxRecDepth 10000 in
theorem zwd1183 : (Jvm.Cond.code ({ cls := "RightTurns$Traffic", name := "plan", desc := "(LRightTurns$Town;[JLRightTurns$Routes;)V" } : Jvm.MethodName) prog_12_method_2_code (5 : Nat) (Option.none : Option Jvm.ClassFile.FieldType)) ∈ zGW := zw (zt5 (i := 223) rfl) rfl
set_option maxRecDepth 10000 in
theorem zwd1184 : (Jvm.Cond.methodLink "RightTurns$Traffic" (51 : Nat) ({ cls := "RightTurns$Routes", name := "aim", desc := "(LRightTurns$Town;[JI)V" } : Jvm.MethodName)) ∈ zGW := zw (zt5 (i := 224) rfl) rfl
set_option maxRecDepth 10000 in
theorem zwd1185 : (Jvm.Cond.methodLink "RightTurns$Traffic" (57 : Nat) ({ cls := "RightTurns$Routes", name := "trace", desc := "(LRightTurns$Town;[JI)I" } : Jvm.MethodName)) ∈ zGW := zw (zt5 (i := 225) rfl) rfl
set_option maxRecDepth 10000 in
theorem zwd1186 : (Jvm.Cond.methodLink "RightTurns$Traffic" (64 : Nat) ({ cls := "java/lang/System", name := "arraycopy", desc := "(Ljava/lang/Object;ILjava/lang/Object;II)V" } : Jvm.MethodName)) ∈ zGW := zw (zt5 (i := 226) rfl) rfl
set_option maxRecDepth 10000 in
theorem zwd1187 : (Jvm.Cond.methodLink "RightTurns" (381 : Nat) ({ cls := "RightTurns$Traffic", name := "run", desc := "(LRightTurns$Town;)V" } : Jvm.MethodName)) ∈ zGW := zw (zt5 (i := 227) rfl) rfl
set_option maxRecDepth 10000 in
theorem zwd1188 : (Jvm.Cond.instanceMethod ({ cls := "RightTurns$Traffic", name := "run", desc := "(LRightTurns$Town;)V" } : Jvm.MethodName)) ∈ zGW := zw (zt5 (i := 228) rfl) rfl
set_option maxRecDepth 10000 in
theorem zwd1189 : (Jvm.Cond.selects "RightTurns$Traffic" ({ cls := "RightTurns$Traffic", name := "run", desc := "(LRightTurns$Town;)V" } : Jvm.MethodName) ({ cls := "RightTurns$Traffic", name := "run", desc := "(LRightTurns$Town;)V" } : Jvm.MethodName)) ∈ zGW := zw (zt5 (i := 229) rfl) rfl
set_option maxRecDepth 10000 in
theorem zwd1190 : (Jvm.Cond.code ({ cls := "RightTurns$Traffic", name := "run", desc := "(LRightTurns$Town;)V" } : Jvm.MethodName) prog_12_method_4_code (4 : Nat) (Option.none : Option Jvm.ClassFile.FieldType)) ∈ zGW := zw (zt5 (i := 230) rfl) rfl
set_option maxRecDepth 10000 in
theorem zwd1191 : (Jvm.Cond.methodLink "RightTurns$Traffic" (70 : Nat) ({ cls := "RightTurns$Traffic", name := "homeMany", desc := "(LRightTurns$Town;)I" } : Jvm.MethodName)) ∈ zGW := zw (zt5 (i := 231) rfl) rfl
set_option maxRecDepth 10000 in
theorem zwd1192 : (Jvm.Cond.instanceMethod ({ cls := "RightTurns$Traffic", name := "homeMany", desc := "(LRightTurns$Town;)I" } : Jvm.MethodName)) ∈ zGW := zw (zt5 (i := 232) rfl) rfl
set_option maxRecDepth 10000 in
theorem zwd1193 : (Jvm.Cond.selects "RightTurns$Traffic" ({ cls := "RightTurns$Traffic", name := "homeMany", desc := "(LRightTurns$Town;)I" } : Jvm.MethodName) ({ cls := "RightTurns$Traffic", name := "homeMany", desc := "(LRightTurns$Town;)I" } : Jvm.MethodName)) ∈ zGW := zw (zt5 (i := 233) rfl) rfl
set_option maxRecDepth 10000 in
theorem zwd1194 : (Jvm.Cond.code ({ cls := "RightTurns$Traffic", name := "homeMany", desc := "(LRightTurns$Town;)I" } : Jvm.MethodName) prog_12_method_10_code (4 : Nat) (Option.some Jvm.ClassFile.FieldType.int)) ∈ zGW := zw (zt5 (i := 234) rfl) rfl
set_option maxRecDepth 10000 in
theorem zwd1195 : (Jvm.Cond.methodLink "RightTurns$Traffic" (74 : Nat) ({ cls := "RightTurns$Traffic", name := "move", desc := "(LRightTurns$Town;I)V" } : Jvm.MethodName)) ∈ zGW := zw (zt5 (i := 235) rfl) rfl
set_option maxRecDepth 10000 in
theorem zwd1197 : (Jvm.Cond.instanceMethod ({ cls := "RightTurns$Traffic", name := "move", desc := "(LRightTurns$Town;I)V" } : Jvm.MethodName)) ∈ zGW := zw (zt5 (i := 237) rfl) rfl
set_option maxRecDepth 10000 in
theorem zwd1198 : (Jvm.Cond.code ({ cls := "RightTurns$Traffic", name := "move", desc := "(LRightTurns$Town;I)V" } : Jvm.MethodName) prog_12_method_5_code (4 : Nat) (Option.none : Option Jvm.ClassFile.FieldType)) ∈ zGW := zw (zt5 (i := 238) rfl) rfl
set_option maxRecDepth 10000 in
theorem zwd1199 : (Jvm.Cond.methodLink "RightTurns$Traffic" (84 : Nat) ({ cls := "RightTurns$Traffic", name := "isOnTheWay", desc := "(I)Z" } : Jvm.MethodName)) ∈ zGW := zw (zt5 (i := 239) rfl) rfl
set_option maxRecDepth 10000 in
theorem zwd1201 : (Jvm.Cond.instanceMethod ({ cls := "RightTurns$Traffic", name := "isOnTheWay", desc := "(I)Z" } : Jvm.MethodName)) ∈ zGW := zw (zt6 (i := 1) rfl) rfl
set_option maxRecDepth 10000 in
theorem zwd1202 : (Jvm.Cond.code ({ cls := "RightTurns$Traffic", name := "isOnTheWay", desc := "(I)Z" } : Jvm.MethodName) prog_12_method_8_code (2 : Nat) (Option.some Jvm.ClassFile.FieldType.boolean)) ∈ zGW := zw (zt6 (i := 2) rfl) rfl
set_option maxRecDepth 10000 in
theorem zwd1203 : (Jvm.Cond.methodLink "RightTurns$Traffic" (78 : Nat) ({ cls := "RightTurns$Traffic", name := "letFirstGo", desc := "(LRightTurns$Town;I)V" } : Jvm.MethodName)) ∈ zGW := zw (zt6 (i := 3) rfl) rfl
set_option maxRecDepth 10000 in
theorem zwd1205 : (Jvm.Cond.instanceMethod ({ cls := "RightTurns$Traffic", name := "letFirstGo", desc := "(LRightTurns$Town;I)V" } : Jvm.MethodName)) ∈ zGW := zw (zt6 (i := 5) rfl) rfl
set_option maxRecDepth 10000 in
theorem zwd1206 : (Jvm.Cond.code ({ cls := "RightTurns$Traffic", name := "letFirstGo", desc := "(LRightTurns$Town;I)V" } : Jvm.MethodName) prog_12_method_6_code (6 : Nat) (Option.none : Option Jvm.ClassFile.FieldType)) ∈ zGW := zw (zt6 (i := 6) rfl) rfl
set_option maxRecDepth 10000 in
theorem zwd1207 : (Jvm.Cond.methodLink "RightTurns$Traffic" (88 : Nat) ({ cls := "java/util/Arrays", name := "fill", desc := "([II)V" } : Jvm.MethodName)) ∈ zGW := zw (zt6 (i := 7) rfl) rfl
set_option maxRecDepth 10000 in
theorem zwd1208 : (Jvm.Cond.methodLink "RightTurns$Traffic" (94 : Nat) ({ cls := "RightTurns$Traffic", name := "cornerAhead", desc := "(LRightTurns$Town;I)I" } : Jvm.MethodName)) ∈ zGW := zw (zt6 (i := 8) rfl) rfl
set_option maxRecDepth 10000 in
theorem zwd1210 : (Jvm.Cond.instanceMethod ({ cls := "RightTurns$Traffic", name := "cornerAhead", desc := "(LRightTurns$Town;I)I" } : Jvm.MethodName)) ∈ zGW := zw (zt6 (i := 10) rfl) rfl
set_option maxRecDepth 10000 in
theorem zwd1211 : (Jvm.Cond.code ({ cls := "RightTurns$Traffic", name := "cornerAhead", desc := "(LRightTurns$Town;I)I" } : Jvm.MethodName) prog_12_method_9_code (3 : Nat) (Option.some Jvm.ClassFile.FieldType.int)) ∈ zGW := zw (zt6 (i := 11) rfl) rfl
set_option maxRecDepth 10000 in
theorem zwd1212 : (Jvm.Cond.methodLink "RightTurns$Traffic" (98 : Nat) ({ cls := "RightTurns$Traffic", name := "goOn", desc := "(LRightTurns$Town;II)V" } : Jvm.MethodName)) ∈ zGW := zw (zt6 (i := 12) rfl) rfl
set_option maxRecDepth 10000 in
theorem zwd1214 : (Jvm.Cond.instanceMethod ({ cls := "RightTurns$Traffic", name := "goOn", desc := "(LRightTurns$Town;II)V" } : Jvm.MethodName)) ∈ zGW := zw (zt6 (i := 14) rfl) rfl
set_option maxRecDepth 10000 in
theorem zwd1215 : (Jvm.Cond.code ({ cls := "RightTurns$Traffic", name := "goOn", desc := "(LRightTurns$Town;II)V" } : Jvm.MethodName) prog_12_method_7_code (4 : Nat) (Option.none : Option Jvm.ClassFile.FieldType)) ∈ zGW := zw (zt6 (i := 15) rfl) rfl
set_option maxRecDepth 10000 in
theorem zwd1216 : (Jvm.Cond.methodLink "RightTurnsLaw" (218 : Nat) ({ cls := "RightTurnsLaw", name := "traffic", desc := "(LRightTurns;I[J)I" } : Jvm.MethodName)) ∈ zGW := zw (zt6 (i := 16) rfl) rfl
set_option maxRecDepth 10000 in
theorem zwd1217 : (Jvm.Cond.static ({ cls := "RightTurnsLaw", name := "traffic", desc := "(LRightTurns;I[J)I" } : Jvm.MethodName)) ∈ zGW := zw (zt6 (i := 17) rfl) rfl
set_option maxRecDepth 10000 in
theorem zwd1218 : (Jvm.Cond.codeWith ({ cls := "RightTurnsLaw", name := "traffic", desc := "(LRightTurns;I[J)I" } : Jvm.MethodName) method_26_code (4 : Nat) (Option.some Jvm.ClassFile.FieldType.int) [((0 : Nat), (9 : Nat), (12 : Nat), (13 : Nat))]) ∈ zGW := zw (zt6 (i := 18) rfl) rfl
set_option maxRecDepth 10000 in
theorem zwd1219 : (Jvm.Cond.methodLink "RightTurnsLaw" (92 : Nat) ({ cls := "RightTurns", name := "traffic", desc := "(I)I" } : Jvm.MethodName)) ∈ zGW := zw (zt6 (i := 19) rfl) rfl
set_option maxRecDepth 10000 in
theorem zwd1220 : (Jvm.Cond.instanceMethod ({ cls := "RightTurns", name := "traffic", desc := "(I)I" } : Jvm.MethodName)) ∈ zGW := zw (zt6 (i := 20) rfl) rfl
set_option maxRecDepth 10000 in
theorem zwd1221 : (Jvm.Cond.selects "RightTurns" ({ cls := "RightTurns", name := "traffic", desc := "(I)I" } : Jvm.MethodName) ({ cls := "RightTurns", name := "traffic", desc := "(I)I" } : Jvm.MethodName)) ∈ zGW := zw (zt6 (i := 21) rfl) rfl
set_option maxRecDepth 10000 in
theorem zwd1222 : (Jvm.Cond.code ({ cls := "RightTurns", name := "traffic", desc := "(I)I" } : Jvm.MethodName) prog_1_method_28_code (2 : Nat) (Option.some Jvm.ClassFile.FieldType.int)) ∈ zGW := zw (zt6 (i := 22) rfl) rfl
set_option maxRecDepth 10000 in
theorem zwd1223 : (Jvm.Cond.methodLink "RightTurns" (313 : Nat) ({ cls := "RightTurns$Traffic", name := "homeMany", desc := "(LRightTurns$Town;)I" } : Jvm.MethodName)) ∈ zGW := zw (zt6 (i := 23) rfl) rfl
set_option maxRecDepth 10000 in
theorem zwd1224 : (Jvm.Cond.methodLink "RightTurns" (317 : Nat) ({ cls := "RightTurns$Traffic", name := "waitsTogether", desc := "(LRightTurns$Town;)I" } : Jvm.MethodName)) ∈ zGW := zw (zt6 (i := 24) rfl) rfl
set_option maxRecDepth 10000 in
theorem zwd1225 : (Jvm.Cond.instanceMethod ({ cls := "RightTurns$Traffic", name := "waitsTogether", desc := "(LRightTurns$Town;)I" } : Jvm.MethodName)) ∈ zGW := zw (zt6 (i := 25) rfl) rfl
set_option maxRecDepth 10000 in
theorem zwd1226 : (Jvm.Cond.selects "RightTurns$Traffic" ({ cls := "RightTurns$Traffic", name := "waitsTogether", desc := "(LRightTurns$Town;)I" } : Jvm.MethodName) ({ cls := "RightTurns$Traffic", name := "waitsTogether", desc := "(LRightTurns$Town;)I" } : Jvm.MethodName)) ∈ zGW := zw (zt6 (i := 26) rfl) rfl
set_option maxRecDepth 10000 in
theorem zwd1227 : (Jvm.Cond.code ({ cls := "RightTurns$Traffic", name := "waitsTogether", desc := "(LRightTurns$Town;)I" } : Jvm.MethodName) prog_12_method_11_code (4 : Nat) (Option.some Jvm.ClassFile.FieldType.int)) ∈ zGW := zw (zt6 (i := 27) rfl) rfl
set_option maxRecDepth 10000 in
theorem zwd1228 : (Jvm.Cond.methodLink "RightTurns" (320 : Nat) ({ cls := "RightTurns$Traffic", name := "waitsMost", desc := "(LRightTurns$Town;)I" } : Jvm.MethodName)) ∈ zGW := zw (zt6 (i := 28) rfl) rfl
set_option maxRecDepth 10000 in
theorem zwd1229 : (Jvm.Cond.instanceMethod ({ cls := "RightTurns$Traffic", name := "waitsMost", desc := "(LRightTurns$Town;)I" } : Jvm.MethodName)) ∈ zGW := zw (zt6 (i := 29) rfl) rfl
set_option maxRecDepth 10000 in
theorem zwd1230 : (Jvm.Cond.selects "RightTurns$Traffic" ({ cls := "RightTurns$Traffic", name := "waitsMost", desc := "(LRightTurns$Town;)I" } : Jvm.MethodName) ({ cls := "RightTurns$Traffic", name := "waitsMost", desc := "(LRightTurns$Town;)I" } : Jvm.MethodName)) ∈ zGW := zw (zt6 (i := 30) rfl) rfl
set_option maxRecDepth 10000 in
theorem zwd1231 : (Jvm.Cond.code ({ cls := "RightTurns$Traffic", name := "waitsMost", desc := "(LRightTurns$Town;)I" } : Jvm.MethodName) prog_12_method_12_code (4 : Nat) (Option.some Jvm.ClassFile.FieldType.int)) ∈ zGW := zw (zt6 (i := 31) rfl) rfl
set_option maxRecDepth 10000 in
theorem zwd1232 : (Jvm.Cond.methodLink "RightTurnsLaw" (221 : Nat) ({ cls := "RightTurnsLaw", name := "counts", desc := "(LRightTurns;I[J)I" } : Jvm.MethodName)) ∈ zGW := zw (zt6 (i := 32) rfl) rfl
set_option maxRecDepth 10000 in
theorem zwd1233 : (Jvm.Cond.static ({ cls := "RightTurnsLaw", name := "counts", desc := "(LRightTurns;I[J)I" } : Jvm.MethodName)) ∈ zGW := zw (zt6 (i := 33) rfl) rfl
set_option maxRecDepth 10000 in
theorem zwd1234 : (Jvm.Cond.codeWith ({ cls := "RightTurnsLaw", name := "counts", desc := "(LRightTurns;I[J)I" } : Jvm.MethodName) method_27_code (4 : Nat) (Option.some Jvm.ClassFile.FieldType.int) [((0 : Nat), (9 : Nat), (12 : Nat), (22 : Nat))]) ∈ zGW := zw (zt6 (i := 34) rfl) rfl
set_option maxRecDepth 10000 in
theorem zwd1235 : (Jvm.Cond.methodLink "RightTurnsLaw" (95 : Nat) ({ cls := "RightTurns", name := "counts", desc := "(I)I" } : Jvm.MethodName)) ∈ zGW := zw (zt6 (i := 35) rfl) rfl
set_option maxRecDepth 10000 in
theorem zwd1236 : (Jvm.Cond.instanceMethod ({ cls := "RightTurns", name := "counts", desc := "(I)I" } : Jvm.MethodName)) ∈ zGW := zw (zt6 (i := 36) rfl) rfl
set_option maxRecDepth 10000 in
theorem zwd1237 : (Jvm.Cond.selects "RightTurns" ({ cls := "RightTurns", name := "counts", desc := "(I)I" } : Jvm.MethodName) ({ cls := "RightTurns", name := "counts", desc := "(I)I" } : Jvm.MethodName)) ∈ zGW := zw (zt6 (i := 37) rfl) rfl
set_option maxRecDepth 10000 in
theorem zwd1238 : (Jvm.Cond.code ({ cls := "RightTurns", name := "counts", desc := "(I)I" } : Jvm.MethodName) prog_1_method_29_code (2 : Nat) (Option.some Jvm.ClassFile.FieldType.int)) ∈ zGW := zw (zt6 (i := 38) rfl) rfl
set_option maxRecDepth 10000 in
theorem zwd1239 : (Jvm.Cond.methodLink "RightTurns" (327 : Nat) ({ cls := "RightTurns$Traffic", name := "passes", desc := "(LRightTurns$Town;I)I" } : Jvm.MethodName)) ∈ zGW := zw (zt6 (i := 39) rfl) rfl
set_option maxRecDepth 10000 in
theorem zwd1240 : (Jvm.Cond.instanceMethod ({ cls := "RightTurns$Traffic", name := "passes", desc := "(LRightTurns$Town;I)I" } : Jvm.MethodName)) ∈ zGW := zw (zt6 (i := 40) rfl) rfl
set_option maxRecDepth 10000 in
theorem zwd1241 : (Jvm.Cond.selects "RightTurns$Traffic" ({ cls := "RightTurns$Traffic", name := "passes", desc := "(LRightTurns$Town;I)I" } : Jvm.MethodName) ({ cls := "RightTurns$Traffic", name := "passes", desc := "(LRightTurns$Town;I)I" } : Jvm.MethodName)) ∈ zGW := zw (zt6 (i := 41) rfl) rfl
set_option maxRecDepth 10000 in
theorem zwd1242 : (Jvm.Cond.code ({ cls := "RightTurns$Traffic", name := "passes", desc := "(LRightTurns$Town;I)I" } : Jvm.MethodName) prog_12_method_3_code (7 : Nat) (Option.some Jvm.ClassFile.FieldType.int)) ∈ zGW := zw (zt6 (i := 42) rfl) rfl
set_option maxRecDepth 10000 in
theorem zwd1243 : (Jvm.Cond.methodLink "RightTurnsLaw" (224 : Nat) ({ cls := "RightTurnsLaw", name := "tell", desc := "(LRightTurns;I[J)I" } : Jvm.MethodName)) ∈ zGW := zw (zt6 (i := 43) rfl) rfl
set_option maxRecDepth 10000 in
theorem zwd1244 : (Jvm.Cond.static ({ cls := "RightTurnsLaw", name := "tell", desc := "(LRightTurns;I[J)I" } : Jvm.MethodName)) ∈ zGW := zw (zt6 (i := 44) rfl) rfl
set_option maxRecDepth 10000 in
theorem zwd1245 : (Jvm.Cond.codeWith ({ cls := "RightTurnsLaw", name := "tell", desc := "(LRightTurns;I[J)I" } : Jvm.MethodName) method_28_code (4 : Nat) (Option.some Jvm.ClassFile.FieldType.int) [((0 : Nat), (9 : Nat), (12 : Nat), (49 : Nat))]) ∈ zGW := zw (zt6 (i := 45) rfl) rfl
set_option maxRecDepth 10000 in
theorem zwd1246 : (Jvm.Cond.methodLink "RightTurnsLaw" (98 : Nat) ({ cls := "RightTurns", name := "tell", desc := "(I)I" } : Jvm.MethodName)) ∈ zGW := zw (zt6 (i := 46) rfl) rfl
set_option maxRecDepth 10000 in
theorem zwd1247 : (Jvm.Cond.instanceMethod ({ cls := "RightTurns", name := "tell", desc := "(I)I" } : Jvm.MethodName)) ∈ zGW := zw (zt6 (i := 47) rfl) rfl
set_option maxRecDepth 10000 in
theorem zwd1248 : (Jvm.Cond.selects "RightTurns" ({ cls := "RightTurns", name := "tell", desc := "(I)I" } : Jvm.MethodName) ({ cls := "RightTurns", name := "tell", desc := "(I)I" } : Jvm.MethodName)) ∈ zGW := zw (zt6 (i := 48) rfl) rfl
set_option maxRecDepth 10000 in
theorem zwd1249 : (Jvm.Cond.code ({ cls := "RightTurns", name := "tell", desc := "(I)I" } : Jvm.MethodName) prog_1_method_30_code (2 : Nat) (Option.some Jvm.ClassFile.FieldType.int)) ∈ zGW := zw (zt6 (i := 49) rfl) rfl
set_option maxRecDepth 10000 in
theorem zwd1250 : (Jvm.Cond.methodLink "RightTurns" (330 : Nat) ({ cls := "RightTurns$Story", name := "add", desc := "(I)I" } : Jvm.MethodName)) ∈ zGW := zw (zt6 (i := 50) rfl) rfl
set_option maxRecDepth 10000 in
theorem zwd1251 : (Jvm.Cond.instanceMethod ({ cls := "RightTurns$Story", name := "add", desc := "(I)I" } : Jvm.MethodName)) ∈ zGW := zw (zt6 (i := 51) rfl) rfl
set_option maxRecDepth 10000 in
theorem zwd1252 : (Jvm.Cond.selects "RightTurns$Story" ({ cls := "RightTurns$Story", name := "add", desc := "(I)I" } : Jvm.MethodName) ({ cls := "RightTurns$Story", name := "add", desc := "(I)I" } : Jvm.MethodName)) ∈ zGW := zw (zt6 (i := 52) rfl) rfl
set_option maxRecDepth 10000 in
theorem zwd1253 : (Jvm.Cond.code ({ cls := "RightTurns$Story", name := "add", desc := "(I)I" } : Jvm.MethodName) prog_10_method_2_code (2 : Nat) (Option.some Jvm.ClassFile.FieldType.int)) ∈ zGW := zw (zt6 (i := 53) rfl) rfl
set_option maxRecDepth 10000 in
theorem zwd1254 : (Jvm.Cond.methodLink "RightTurnsLaw" (231 : Nat) ({ cls := "RightTurnsLaw", name := "breaks", desc := "(LRightTurns;II[J)I" } : Jvm.MethodName)) ∈ zGW := zw (zt6 (i := 54) rfl) rfl
set_option maxRecDepth 10000 in
theorem zwd1255 : (Jvm.Cond.static ({ cls := "RightTurnsLaw", name := "breaks", desc := "(LRightTurns;II[J)I" } : Jvm.MethodName)) ∈ zGW := zw (zt6 (i := 55) rfl) rfl
set_option maxRecDepth 10000 in
theorem zwd1256 : (Jvm.Cond.codeWith ({ cls := "RightTurnsLaw", name := "breaks", desc := "(LRightTurns;II[J)I" } : Jvm.MethodName) method_29_code (5 : Nat) (Option.some Jvm.ClassFile.FieldType.int) [((0 : Nat), (9 : Nat), (12 : Nat), (13 : Nat))]) ∈ zGW := zw (zt6 (i := 56) rfl) rfl
set_option maxRecDepth 10000 in
theorem zwd1257 : (Jvm.Cond.methodLink "RightTurnsLaw" (101 : Nat) ({ cls := "RightTurns", name := "breaks", desc := "(II)J" } : Jvm.MethodName)) ∈ zGW := zw (zt6 (i := 57) rfl) rfl
set_option maxRecDepth 10000 in
theorem zwd1258 : (Jvm.Cond.instanceMethod ({ cls := "RightTurns", name := "breaks", desc := "(II)J" } : Jvm.MethodName)) ∈ zGW := zw (zt6 (i := 58) rfl) rfl
set_option maxRecDepth 10000 in
theorem zwd1259 : (Jvm.Cond.selects "RightTurns" ({ cls := "RightTurns", name := "breaks", desc := "(II)J" } : Jvm.MethodName) ({ cls := "RightTurns", name := "breaks", desc := "(II)J" } : Jvm.MethodName)) ∈ zGW := zw (zt6 (i := 59) rfl) rfl
set_option maxRecDepth 10000 in
theorem zwd1260 : (Jvm.Cond.code ({ cls := "RightTurns", name := "breaks", desc := "(II)J" } : Jvm.MethodName) prog_1_method_32_code (4 : Nat) (Option.some Jvm.ClassFile.FieldType.long)) ∈ zGW := zw (zt6 (i := 60) rfl) rfl
set_option maxRecDepth 10000 in
theorem zwd1261 : (Jvm.Cond.methodLink "RightTurns" (333 : Nat) ({ cls := "RightTurns$Story", name := "weigh", desc := "(LRightTurns$Town;[JI)I" } : Jvm.MethodName)) ∈ zGW := zw (zt6 (i := 61) rfl) rfl
set_option maxRecDepth 10000 in
theorem zwd1262 : (Jvm.Cond.instanceMethod ({ cls := "RightTurns$Story", name := "weigh", desc := "(LRightTurns$Town;[JI)I" } : Jvm.MethodName)) ∈ zGW := zw (zt6 (i := 62) rfl) rfl
set_option maxRecDepth 10000 in
theorem zwd1263 : (Jvm.Cond.selects "RightTurns$Story" ({ cls := "RightTurns$Story", name := "weigh", desc := "(LRightTurns$Town;[JI)I" } : Jvm.MethodName) ({ cls := "RightTurns$Story", name := "weigh", desc := "(LRightTurns$Town;[JI)I" } : Jvm.MethodName)) ∈ zGW := zw (zt6 (i := 63) rfl) rfl
set_option maxRecDepth 10000 in
theorem zwd1264 : (Jvm.Cond.code ({ cls := "RightTurns$Story", name := "weigh", desc := "(LRightTurns$Town;[JI)I" } : Jvm.MethodName) prog_10_method_3_code (10 : Nat) (Option.some Jvm.ClassFile.FieldType.int)) ∈ zGW := zw (zt6 (i := 64) rfl) rfl
set_option maxRecDepth 10000 in
theorem zwd1265 : (Jvm.Cond.constant "RightTurns$Story" (32 : Nat) (268435456 : Int32)) ∈ zGW := zw (zt6 (i := 65) rfl) rfl
set_option maxRecDepth 10000 in
theorem zwd1266 : (Jvm.Cond.methodLink "RightTurns$Story" (33 : Nat) ({ cls := "java/util/Arrays", name := "fill", desc := "([II)V" } : Jvm.MethodName)) ∈ zGW := zw (zt6 (i := 66) rfl) rfl
set_option maxRecDepth 10000 in
theorem zwd1268 : (Jvm.Cond.methodLink "RightTurns$Story" (54 : Nat) ({ cls := "RightTurns$Story", name := "weighArc", desc := "(IIJ[JI)V" } : Jvm.MethodName)) ∈ zGW := zw (zt6 (i := 68) rfl) rfl
set_option maxRecDepth 10000 in
theorem zwd1270 : (Jvm.Cond.instanceMethod ({ cls := "RightTurns$Story", name := "weighArc", desc := "(IIJ[JI)V" } : Jvm.MethodName)) ∈ zGW := zw (zt6 (i := 70) rfl) rfl
set_option maxRecDepth 10000 in
theorem zwd1271 : (Jvm.Cond.code ({ cls := "RightTurns$Story", name := "weighArc", desc := "(IIJ[JI)V" } : Jvm.MethodName) prog_10_method_4_code (12 : Nat) (Option.none : Option Jvm.ClassFile.FieldType)) ∈ zGW := zw (zt6 (i := 71) rfl) rfl
set_option maxRecDepth 10000 in
theorem zwd1272 : (Jvm.Cond.methodLink "RightTurns$Story" (62 : Nat) ({ cls := "RightTurns$Story", name := "priceOf", desc := "(II[JI)I" } : Jvm.MethodName)) ∈ zGW := zw (zt6 (i := 72) rfl) rfl
set_option maxRecDepth 10000 in
theorem zwd1273 : (Jvm.Cond.static ({ cls := "RightTurns$Story", name := "priceOf", desc := "(II[JI)I" } : Jvm.MethodName)) ∈ zGW := zw (zt6 (i := 73) rfl) rfl
set_option maxRecDepth 10000 in
theorem zwd1274 : (Jvm.Cond.code ({ cls := "RightTurns$Story", name := "priceOf", desc := "(II[JI)I" } : Jvm.MethodName) prog_10_method_5_code (4 : Nat) (Option.some Jvm.ClassFile.FieldType.int)) ∈ zGW := zw (zt6 (i := 74) rfl) rfl
set_option maxRecDepth 10000 in
theorem zwd1275 : (Jvm.Cond.methodLink "RightTurns$Story" (66 : Nat) ({ cls := "RightTurns$Story", name := "pairOf", desc := "(II)I" } : Jvm.MethodName)) ∈ zGW := zw (zt6 (i := 75) rfl) rfl
set_option maxRecDepth 10000 in
theorem zwd1276 : (Jvm.Cond.static ({ cls := "RightTurns$Story", name := "pairOf", desc := "(II)I" } : Jvm.MethodName)) ∈ zGW := zw (zt6 (i := 76) rfl) rfl
set_option maxRecDepth 10000 in
theorem zwd1277 : (Jvm.Cond.code ({ cls := "RightTurns$Story", name := "pairOf", desc := "(II)I" } : Jvm.MethodName) prog_10_method_6_code (2 : Nat) (Option.some Jvm.ClassFile.FieldType.int)) ∈ zGW := zw (zt6 (i := 77) rfl) rfl
set_option maxRecDepth 10000 in
theorem zwd1278 : (Jvm.Cond.methodLink "RightTurns$Story" (58 : Nat) ({ cls := "RightTurns$Story", name := "leastOfLeg", desc := "(I)I" } : Jvm.MethodName)) ∈ zGW := zw (zt6 (i := 78) rfl) rfl
set_option maxRecDepth 10000 in
theorem zwd1280 : (Jvm.Cond.instanceMethod ({ cls := "RightTurns$Story", name := "leastOfLeg", desc := "(I)I" } : Jvm.MethodName)) ∈ zGW := zw (zt6 (i := 80) rfl) rfl
set_option maxRecDepth 10000 in
theorem zwd1281 : (Jvm.Cond.code ({ cls := "RightTurns$Story", name := "leastOfLeg", desc := "(I)I" } : Jvm.MethodName) prog_10_method_7_code (4 : Nat) (Option.some Jvm.ClassFile.FieldType.int)) ∈ zGW := zw (zt6 (i := 81) rfl) rfl
set_option maxRecDepth 10000 in
theorem zwd1282 : (Jvm.Cond.methodLink "RightTurns$Story" (70 : Nat) ({ cls := "java/lang/Math", name := "min", desc := "(II)I" } : Jvm.MethodName)) ∈ zGW := zw (zt6 (i := 82) rfl) rfl
set_option maxRecDepth 10000 in
theorem zwd1283 : (Jvm.Cond.methodLink "RightTurns" (336 : Nat) ({ cls := "RightTurns$Story", name := "waysOf", desc := "(I)J" } : Jvm.MethodName)) ∈ zGW := zw (zt6 (i := 83) rfl) rfl
set_option maxRecDepth 10000 in
theorem zwd1284 : (Jvm.Cond.instanceMethod ({ cls := "RightTurns$Story", name := "waysOf", desc := "(I)J" } : Jvm.MethodName)) ∈ zGW := zw (zt6 (i := 84) rfl) rfl
set_option maxRecDepth 10000 in
theorem zwd1285 : (Jvm.Cond.selects "RightTurns$Story" ({ cls := "RightTurns$Story", name := "waysOf", desc := "(I)J" } : Jvm.MethodName) ({ cls := "RightTurns$Story", name := "waysOf", desc := "(I)J" } : Jvm.MethodName)) ∈ zGW := zw (zt6 (i := 85) rfl) rfl
set_option maxRecDepth 10000 in
theorem zwd1286 : (Jvm.Cond.code ({ cls := "RightTurns$Story", name := "waysOf", desc := "(I)J" } : Jvm.MethodName) prog_10_method_8_code (5 : Nat) (Option.some Jvm.ClassFile.FieldType.long)) ∈ zGW := zw (zt6 (i := 86) rfl) rfl
set_option maxRecDepth 10000 in
theorem zwd1287 : (Jvm.Cond.methodLink "RightTurnsLaw" (234 : Nat) ({ cls := "RightTurnsLaw", name := "cut", desc := "(LRightTurns;I[J)I" } : Jvm.MethodName)) ∈ zGW := zw (zt6 (i := 87) rfl) rfl
set_option maxRecDepth 10000 in
theorem zwd1288 : (Jvm.Cond.static ({ cls := "RightTurnsLaw", name := "cut", desc := "(LRightTurns;I[J)I" } : Jvm.MethodName)) ∈ zGW := zw (zt6 (i := 88) rfl) rfl
set_option maxRecDepth 10000 in
theorem zwd1289 : (Jvm.Cond.codeWith ({ cls := "RightTurnsLaw", name := "cut", desc := "(LRightTurns;I[J)I" } : Jvm.MethodName) method_30_code (4 : Nat) (Option.some Jvm.ClassFile.FieldType.int) [((0 : Nat), (9 : Nat), (12 : Nat), (13 : Nat))]) ∈ zGW := zw (zt6 (i := 89) rfl) rfl
set_option maxRecDepth 10000 in
theorem zwd1290 : (Jvm.Cond.methodLink "RightTurnsLaw" (105 : Nat) ({ cls := "RightTurns", name := "cut", desc := "(I)I" } : Jvm.MethodName)) ∈ zGW := zw (zt6 (i := 90) rfl) rfl
set_option maxRecDepth 10000 in
theorem zwd1291 : (Jvm.Cond.instanceMethod ({ cls := "RightTurns", name := "cut", desc := "(I)I" } : Jvm.MethodName)) ∈ zGW := zw (zt6 (i := 91) rfl) rfl
set_option maxRecDepth 10000 in
theorem zwd1292 : (Jvm.Cond.selects "RightTurns" ({ cls := "RightTurns", name := "cut", desc := "(I)I" } : Jvm.MethodName) ({ cls := "RightTurns", name := "cut", desc := "(I)I" } : Jvm.MethodName)) ∈ zGW := zw (zt6 (i := 92) rfl) rfl
set_option maxRecDepth 10000 in
theorem zwd1293 : (Jvm.Cond.code ({ cls := "RightTurns", name := "cut", desc := "(I)I" } : Jvm.MethodName) prog_1_method_33_code (2 : Nat) (Option.some Jvm.ClassFile.FieldType.int)) ∈ zGW := zw (zt6 (i := 93) rfl) rfl
set_option maxRecDepth 10000 in
theorem zwd1294 : (Jvm.Cond.methodLink "RightTurns" (340 : Nat) ({ cls := "RightTurns$Reach", name := "leastClosed", desc := "(LRightTurns$Town;[J)I" } : Jvm.MethodName)) ∈ zGW := zw (zt6 (i := 94) rfl) rfl
set_option maxRecDepth 10000 in
theorem zwd1295 : (Jvm.Cond.static ({ cls := "RightTurns$Reach", name := "leastClosed", desc := "(LRightTurns$Town;[J)I" } : Jvm.MethodName)) ∈ zGW := zw (zt6 (i := 95) rfl) rfl
set_option maxRecDepth 10000 in
theorem zwd1296 : (Jvm.Cond.code ({ cls := "RightTurns$Reach", name := "leastClosed", desc := "(LRightTurns$Town;[J)I" } : Jvm.MethodName) prog_6_method_7_code (6 : Nat) (Option.some Jvm.ClassFile.FieldType.int)) ∈ zGW := zw (zt6 (i := 96) rfl) rfl
set_option maxRecDepth 10000 in
theorem zwd1297 : (Jvm.Cond.methodLink "RightTurns$Reach" (51 : Nat) ({ cls := "RightTurns$Reach", name := "closureOf", desc := "(LRightTurns$Town;[JI)I" } : Jvm.MethodName)) ∈ zGW := zw (zt6 (i := 97) rfl) rfl
set_option maxRecDepth 10000 in
theorem zwd1298 : (Jvm.Cond.static ({ cls := "RightTurns$Reach", name := "closureOf", desc := "(LRightTurns$Town;[JI)I" } : Jvm.MethodName)) ∈ zGW := zw (zt6 (i := 98) rfl) rfl
set_option maxRecDepth 10000 in
theorem zwd1299 : (Jvm.Cond.code ({ cls := "RightTurns$Reach", name := "closureOf", desc := "(LRightTurns$Town;[JI)I" } : Jvm.MethodName) prog_6_method_9_code (7 : Nat) (Option.some Jvm.ClassFile.FieldType.int)) ∈ zGW := zw (zt6 (i := 99) rfl) rfl
set_option maxRecDepth 10000 in
theorem zwd1300 : (Jvm.Cond.methodLink "RightTurns$Reach" (54 : Nat) ({ cls := "RightTurns$Reach", name := "isLess", desc := "(II)Z" } : Jvm.MethodName)) ∈ zGW := zw (zt6 (i := 100) rfl) rfl
set_option maxRecDepth 10000 in
theorem zwd1301 : (Jvm.Cond.static ({ cls := "RightTurns$Reach", name := "isLess", desc := "(II)Z" } : Jvm.MethodName)) ∈ zGW := zw (zt6 (i := 101) rfl) rfl
set_option maxRecDepth 10000 in
theorem zwd1302 : (Jvm.Cond.code ({ cls := "RightTurns$Reach", name := "isLess", desc := "(II)Z" } : Jvm.MethodName) prog_6_method_8_code (4 : Nat) (Option.some Jvm.ClassFile.FieldType.boolean)) ∈ zGW := zw (zt6 (i := 102) rfl) rfl
set_option maxRecDepth 10000 in
theorem zwd1303 : (Jvm.Cond.methodLink "RightTurnsLaw" (237 : Nat) ({ cls := "RightTurnsLaw", name := "sure", desc := "(LRightTurns;II[J)I" } : Jvm.MethodName)) ∈ zGW := zw (zt6 (i := 103) rfl) rfl
set_option maxRecDepth 10000 in
theorem zwd1304 : (Jvm.Cond.static ({ cls := "RightTurnsLaw", name := "sure", desc := "(LRightTurns;II[J)I" } : Jvm.MethodName)) ∈ zGW := zw (zt6 (i := 104) rfl) rfl
set_option maxRecDepth 10000 in
theorem zwd1305 : (Jvm.Cond.codeWith ({ cls := "RightTurnsLaw", name := "sure", desc := "(LRightTurns;II[J)I" } : Jvm.MethodName) method_31_code (5 : Nat) (Option.some Jvm.ClassFile.FieldType.int) [((0 : Nat), (10 : Nat), (13 : Nat), (13 : Nat))]) ∈ zGW := zw (zt6 (i := 105) rfl) rfl
set_option maxRecDepth 10000 in
theorem zwd1306 : (Jvm.Cond.methodLink "RightTurnsLaw" (108 : Nat) ({ cls := "RightTurns", name := "sure", desc := "(II)I" } : Jvm.MethodName)) ∈ zGW := zw (zt6 (i := 106) rfl) rfl
set_option maxRecDepth 10000 in
theorem zwd1307 : (Jvm.Cond.instanceMethod ({ cls := "RightTurns", name := "sure", desc := "(II)I" } : Jvm.MethodName)) ∈ zGW := zw (zt6 (i := 107) rfl) rfl
set_option maxRecDepth 10000 in
theorem zwd1308 : (Jvm.Cond.selects "RightTurns" ({ cls := "RightTurns", name := "sure", desc := "(II)I" } : Jvm.MethodName) ({ cls := "RightTurns", name := "sure", desc := "(II)I" } : Jvm.MethodName)) ∈ zGW := zw (zt6 (i := 108) rfl) rfl
set_option maxRecDepth 10000 in
theorem zwd1309 : (Jvm.Cond.code ({ cls := "RightTurns", name := "sure", desc := "(II)I" } : Jvm.MethodName) prog_1_method_34_code (3 : Nat) (Option.some Jvm.ClassFile.FieldType.int)) ∈ zGW := zw (zt6 (i := 109) rfl) rfl
set_option maxRecDepth 10000 in
theorem zwd1310 : (Jvm.Cond.methodLink "RightTurns" (343 : Nat) ({ cls := "RightTurns$Story", name := "surePair", desc := "(LRightTurns$Town;[JI)I" } : Jvm.MethodName)) ∈ zGW := zw (zt6 (i := 110) rfl) rfl
set_option maxRecDepth 10000 in
theorem zwd1311 : (Jvm.Cond.instanceMethod ({ cls := "RightTurns$Story", name := "surePair", desc := "(LRightTurns$Town;[JI)I" } : Jvm.MethodName)) ∈ zGW := zw (zt6 (i := 111) rfl) rfl
set_option maxRecDepth 10000 in
theorem zwd1312 : (Jvm.Cond.selects "RightTurns$Story" ({ cls := "RightTurns$Story", name := "surePair", desc := "(LRightTurns$Town;[JI)I" } : Jvm.MethodName) ({ cls := "RightTurns$Story", name := "surePair", desc := "(LRightTurns$Town;[JI)I" } : Jvm.MethodName)) ∈ zGW := zw (zt6 (i := 112) rfl) rfl
set_option maxRecDepth 10000 in
theorem zwd1313 : (Jvm.Cond.code ({ cls := "RightTurns$Story", name := "surePair", desc := "(LRightTurns$Town;[JI)I" } : Jvm.MethodName) prog_10_method_9_code (7 : Nat) (Option.some Jvm.ClassFile.FieldType.int)) ∈ zGW := zw (zt6 (i := 113) rfl) rfl
set_option maxRecDepth 10000 in
theorem zwd1314 : (Jvm.Cond.methodLink "RightTurns$Story" (75 : Nat) ({ cls := "RightTurns$Story", name := "weigh", desc := "(LRightTurns$Town;[JI)I" } : Jvm.MethodName)) ∈ zGW := zw (zt6 (i := 114) rfl) rfl
set_option maxRecDepth 10000 in
theorem zwd1315 : (Jvm.Cond.methodLink "RightTurns$Story" (79 : Nat) ({ cls := "RightTurns$Story", name := "listBroken", desc := "([JI)V" } : Jvm.MethodName)) ∈ zGW := zw (zt6 (i := 115) rfl) rfl
set_option maxRecDepth 10000 in
theorem zwd1317 : (Jvm.Cond.instanceMethod ({ cls := "RightTurns$Story", name := "listBroken", desc := "([JI)V" } : Jvm.MethodName)) ∈ zGW := zw (zt6 (i := 117) rfl) rfl
set_option maxRecDepth 10000 in
theorem zwd1318 : (Jvm.Cond.code ({ cls := "RightTurns$Story", name := "listBroken", desc := "([JI)V" } : Jvm.MethodName) prog_10_method_10_code (6 : Nat) (Option.none : Option Jvm.ClassFile.FieldType)) ∈ zGW := zw (zt6 (i := 118) rfl) rfl
set_option maxRecDepth 10000 in
theorem zwd1319 : (Jvm.Cond.methodLink "RightTurns$Story" (83 : Nat) ({ cls := "RightTurns$Story", name := "arcWith", desc := "(II)I" } : Jvm.MethodName)) ∈ zGW := zw (zt6 (i := 119) rfl) rfl
set_option maxRecDepth 10000 in
theorem zwd1321 : (Jvm.Cond.instanceMethod ({ cls := "RightTurns$Story", name := "arcWith", desc := "(II)I" } : Jvm.MethodName)) ∈ zGW := zw (zt6 (i := 121) rfl) rfl
set_option maxRecDepth 10000 in
theorem zwd1322 : (Jvm.Cond.code ({ cls := "RightTurns$Story", name := "arcWith", desc := "(II)I" } : Jvm.MethodName) prog_10_method_11_code (4 : Nat) (Option.some Jvm.ClassFile.FieldType.int)) ∈ zGW := zw (zt6 (i := 122) rfl) rfl
set_option maxRecDepth 10000 in
theorem zwd1323 : (Jvm.Cond.methodLink "RightTurns$Story" (86 : Nat) ({ cls := "RightTurns$Story", name := "arcAhead", desc := "(II[JI)I" } : Jvm.MethodName)) ∈ zGW := zw (zt6 (i := 123) rfl) rfl
set_option maxRecDepth 10000 in
theorem zwd1325 : (Jvm.Cond.instanceMethod ({ cls := "RightTurns$Story", name := "arcAhead", desc := "(II[JI)I" } : Jvm.MethodName)) ∈ zGW := zw (zt6 (i := 125) rfl) rfl
set_option maxRecDepth 10000 in
theorem zwd1326 : (Jvm.Cond.code ({ cls := "RightTurns$Story", name := "arcAhead", desc := "(II[JI)I" } : Jvm.MethodName) prog_10_method_12_code (7 : Nat) (Option.some Jvm.ClassFile.FieldType.int)) ∈ zGW := zw (zt6 (i := 126) rfl) rfl
set_option maxRecDepth 10000 in
theorem zwd1327 : (Jvm.Cond.methodLink "RightTurns$Story" (89 : Nat) ({ cls := "RightTurns$Story", name := "putInOrder", desc := "(I)V" } : Jvm.MethodName)) ∈ zGW := zw (zt6 (i := 127) rfl) rfl
set_option maxRecDepth 10000 in
theorem zwd1329 : (Jvm.Cond.instanceMethod ({ cls := "RightTurns$Story", name := "putInOrder", desc := "(I)V" } : Jvm.MethodName)) ∈ zGW := zw (zt6 (i := 129) rfl) rfl
set_option maxRecDepth 10000 in
theorem zwd1330 : (Jvm.Cond.code ({ cls := "RightTurns$Story", name := "putInOrder", desc := "(I)V" } : Jvm.MethodName) prog_10_method_13_code (4 : Nat) (Option.none : Option Jvm.ClassFile.FieldType)) ∈ zGW := zw (zt6 (i := 130) rfl) rfl
set_option maxRecDepth 10000 in
theorem zwd1331 : (Jvm.Cond.methodLink "RightTurnsLaw" (240 : Nat) ({ cls := "RightTurnsLaw", name := "detour", desc := "(LRightTurns;III[J)I" } : Jvm.MethodName)) ∈ zGW := zw (zt6 (i := 131) rfl) rfl
set_option maxRecDepth 10000 in
theorem zwd1332 : (Jvm.Cond.static ({ cls := "RightTurnsLaw", name := "detour", desc := "(LRightTurns;III[J)I" } : Jvm.MethodName)) ∈ zGW := zw (zt6 (i := 132) rfl) rfl
set_option maxRecDepth 10000 in
theorem zwd1333 : (Jvm.Cond.codeWith ({ cls := "RightTurnsLaw", name := "detour", desc := "(LRightTurns;III[J)I" } : Jvm.MethodName) method_32_code (6 : Nat) (Option.some Jvm.ClassFile.FieldType.int) [((0 : Nat), (12 : Nat), (15 : Nat), (49 : Nat)), ((0 : Nat), (12 : Nat), (19 : Nat), (13 : Nat))]) ∈ zGW := zw (zt6 (i := 133) rfl) rfl
set_option maxRecDepth 10000 in
theorem zwd1334 : (Jvm.Cond.methodLink "RightTurnsLaw" (111 : Nat) ({ cls := "RightTurns", name := "detour", desc := "(III)I" } : Jvm.MethodName)) ∈ zGW := zw (zt6 (i := 134) rfl) rfl
set_option maxRecDepth 10000 in
theorem zwd1335 : (Jvm.Cond.instanceMethod ({ cls := "RightTurns", name := "detour", desc := "(III)I" } : Jvm.MethodName)) ∈ zGW := zw (zt6 (i := 135) rfl) rfl
set_option maxRecDepth 10000 in
theorem zwd1336 : (Jvm.Cond.selects "RightTurns" ({ cls := "RightTurns", name := "detour", desc := "(III)I" } : Jvm.MethodName) ({ cls := "RightTurns", name := "detour", desc := "(III)I" } : Jvm.MethodName)) ∈ zGW := zw (zt6 (i := 136) rfl) rfl
set_option maxRecDepth 10000 in
theorem zwd1337 : (Jvm.Cond.code ({ cls := "RightTurns", name := "detour", desc := "(III)I" } : Jvm.MethodName) prog_1_method_35_code (5 : Nat) (Option.some Jvm.ClassFile.FieldType.int)) ∈ zGW := zw (zt6 (i := 137) rfl) rfl
set_option maxRecDepth 10000 in
theorem zwd1338 : (Jvm.Cond.methodLink "RightTurnsLaw" (243 : Nat) ({ cls := "RightTurnsLaw", name := "gain", desc := "(LRightTurns;II[J)I" } : Jvm.MethodName)) ∈ zGW := zw (zt6 (i := 138) rfl) rfl
set_option maxRecDepth 10000 in
theorem zwd1339 : (Jvm.Cond.static ({ cls := "RightTurnsLaw", name := "gain", desc := "(LRightTurns;II[J)I" } : Jvm.MethodName)) ∈ zGW := zw (zt6 (i := 139) rfl) rfl
set_option maxRecDepth 10000 in
theorem zwd1340 : (Jvm.Cond.codeWith ({ cls := "RightTurnsLaw", name := "gain", desc := "(LRightTurns;II[J)I" } : Jvm.MethodName) method_33_code (5 : Nat) (Option.some Jvm.ClassFile.FieldType.int) [((0 : Nat), (10 : Nat), (13 : Nat), (13 : Nat))]) ∈ zGW := zw (zt6 (i := 140) rfl) rfl
set_option maxRecDepth 10000 in
theorem zwd1341 : (Jvm.Cond.methodLink "RightTurnsLaw" (114 : Nat) ({ cls := "RightTurns", name := "gain", desc := "(II)I" } : Jvm.MethodName)) ∈ zGW := zw (zt6 (i := 141) rfl) rfl
set_option maxRecDepth 10000 in
theorem zwd1342 : (Jvm.Cond.instanceMethod ({ cls := "RightTurns", name := "gain", desc := "(II)I" } : Jvm.MethodName)) ∈ zGW := zw (zt6 (i := 142) rfl) rfl
set_option maxRecDepth 10000 in
theorem zwd1343 : (Jvm.Cond.selects "RightTurns" ({ cls := "RightTurns", name := "gain", desc := "(II)I" } : Jvm.MethodName) ({ cls := "RightTurns", name := "gain", desc := "(II)I" } : Jvm.MethodName)) ∈ zGW := zw (zt6 (i := 143) rfl) rfl
set_option maxRecDepth 10000 in
theorem zwd1344 : (Jvm.Cond.code ({ cls := "RightTurns", name := "gain", desc := "(II)I" } : Jvm.MethodName) prog_1_method_36_code (3 : Nat) (Option.some Jvm.ClassFile.FieldType.int)) ∈ zGW := zw (zt6 (i := 144) rfl) rfl
set_option maxRecDepth 10000 in
theorem zwd1345 : (Jvm.Cond.methodLink "RightTurns" (349 : Nat) ({ cls := "RightTurns$Choices", name := "searchGain", desc := "(LRightTurns$Town;LRightTurns$Rules;LRightTurns$Routes;)V" } : Jvm.MethodName)) ∈ zGW := zw (zt6 (i := 145) rfl) rfl
set_option maxRecDepth 10000 in
theorem zwd1346 : (Jvm.Cond.instanceMethod ({ cls := "RightTurns$Choices", name := "searchGain", desc := "(LRightTurns$Town;LRightTurns$Rules;LRightTurns$Routes;)V" } : Jvm.MethodName)) ∈ zGW := zw (zt6 (i := 146) rfl) rfl
set_option maxRecDepth 10000 in
theorem zwd1347 : (Jvm.Cond.selects "RightTurns$Choices" ({ cls := "RightTurns$Choices", name := "searchGain", desc := "(LRightTurns$Town;LRightTurns$Rules;LRightTurns$Routes;)V" } : Jvm.MethodName) ({ cls := "RightTurns$Choices", name := "searchGain", desc := "(LRightTurns$Town;LRightTurns$Rules;LRightTurns$Routes;)V" } : Jvm.MethodName)) ∈ zGW := zw (zt6 (i := 147) rfl) rfl
set_option maxRecDepth 10000 in
theorem zwd1348 : (Jvm.Cond.code ({ cls := "RightTurns$Choices", name := "searchGain", desc := "(LRightTurns$Town;LRightTurns$Rules;LRightTurns$Routes;)V" } : Jvm.MethodName) prog_3_method_7_code (10 : Nat) (Option.none : Option Jvm.ClassFile.FieldType)) ∈ zGW := zw (zt6 (i := 148) rfl) rfl
set_option maxRecDepth 10000 in
theorem zwd1349 : (Jvm.Cond.methodLink "RightTurns$Choices" (86 : Nat) ({ cls := "RightTurns$Routes", name := "aim", desc := "(LRightTurns$Town;[JI)V" } : Jvm.MethodName)) ∈ zGW := zw (zt6 (i := 149) rfl) rfl
set_option maxRecDepth 10000 in
theorem zwd1350 : (Jvm.Cond.methodLink "RightTurns$Choices" (92 : Nat) ({ cls := "RightTurns$Routes", name := "lengthFrom", desc := "(LRightTurns$Town;I)I" } : Jvm.MethodName)) ∈ zGW := zw (zt6 (i := 150) rfl) rfl
set_option maxRecDepth 10000 in
theorem zwd1351 : (Jvm.Cond.methodLink "RightTurnsLaw" (246 : Nat) ({ cls := "RightTurnsLaw", name := "baker", desc := "(LRightTurns;II[J)I" } : Jvm.MethodName)) ∈ zGW := zw (zt6 (i := 151) rfl) rfl
set_option maxRecDepth 10000 in
theorem zwd1352 : (Jvm.Cond.static ({ cls := "RightTurnsLaw", name := "baker", desc := "(LRightTurns;II[J)I" } : Jvm.MethodName)) ∈ zGW := zw (zt6 (i := 152) rfl) rfl
set_option maxRecDepth 10000 in
theorem zwd1353 : (Jvm.Cond.codeWith ({ cls := "RightTurnsLaw", name := "baker", desc := "(LRightTurns;II[J)I" } : Jvm.MethodName) method_34_code (5 : Nat) (Option.some Jvm.ClassFile.FieldType.int) [((0 : Nat), (10 : Nat), (13 : Nat), (13 : Nat))]) ∈ zGW := zw (zt6 (i := 153) rfl) rfl
set_option maxRecDepth 10000 in
theorem zwd1354 : (Jvm.Cond.methodLink "RightTurnsLaw" (117 : Nat) ({ cls := "RightTurns", name := "baker", desc := "(II)I" } : Jvm.MethodName)) ∈ zGW := zw (zt6 (i := 154) rfl) rfl
set_option maxRecDepth 10000 in
theorem zwd1355 : (Jvm.Cond.instanceMethod ({ cls := "RightTurns", name := "baker", desc := "(II)I" } : Jvm.MethodName)) ∈ zGW := zw (zt6 (i := 155) rfl) rfl
set_option maxRecDepth 10000 in
theorem zwd1356 : (Jvm.Cond.selects "RightTurns" ({ cls := "RightTurns", name := "baker", desc := "(II)I" } : Jvm.MethodName) ({ cls := "RightTurns", name := "baker", desc := "(II)I" } : Jvm.MethodName)) ∈ zGW := zw (zt6 (i := 156) rfl) rfl
set_option maxRecDepth 10000 in
theorem zwd1357 : (Jvm.Cond.code ({ cls := "RightTurns", name := "baker", desc := "(II)I" } : Jvm.MethodName) prog_1_method_37_code (4 : Nat) (Option.some Jvm.ClassFile.FieldType.int)) ∈ zGW := zw (zt6 (i := 157) rfl) rfl
set_option maxRecDepth 10000 in
theorem zwd1358 : (Jvm.Cond.methodLink "RightTurns" (353 : Nat) ({ cls := "RightTurns$Traffic", name := "busiest", desc := "(LRightTurns$Town;[JLRightTurns$Routes;)I" } : Jvm.MethodName)) ∈ zGW := zw (zt6 (i := 158) rfl) rfl
set_option maxRecDepth 10000 in
theorem zwd1359 : (Jvm.Cond.instanceMethod ({ cls := "RightTurns$Traffic", name := "busiest", desc := "(LRightTurns$Town;[JLRightTurns$Routes;)I" } : Jvm.MethodName)) ∈ zGW := zw (zt6 (i := 159) rfl) rfl
set_option maxRecDepth 10000 in
theorem zwd1360 : (Jvm.Cond.selects "RightTurns$Traffic" ({ cls := "RightTurns$Traffic", name := "busiest", desc := "(LRightTurns$Town;[JLRightTurns$Routes;)I" } : Jvm.MethodName) ({ cls := "RightTurns$Traffic", name := "busiest", desc := "(LRightTurns$Town;[JLRightTurns$Routes;)I" } : Jvm.MethodName)) ∈ zGW := zw (zt6 (i := 160) rfl) rfl
set_option maxRecDepth 10000 in
theorem zwd1361 : (Jvm.Cond.code ({ cls := "RightTurns$Traffic", name := "busiest", desc := "(LRightTurns$Town;[JLRightTurns$Routes;)I" } : Jvm.MethodName) prog_12_method_13_code (6 : Nat) (Option.some Jvm.ClassFile.FieldType.int)) ∈ zGW := zw (zt6 (i := 161) rfl) rfl
set_option maxRecDepth 10000 in
theorem zwd1362 : (Jvm.Cond.methodLink "RightTurns$Traffic" (108 : Nat) ({ cls := "RightTurns$Traffic", name := "addPassed", desc := "(LRightTurns$Routes;I)V" } : Jvm.MethodName)) ∈ zGW := zw (zt6 (i := 162) rfl) rfl
set_option maxRecDepth 10000 in
theorem zwd1364 : (Jvm.Cond.instanceMethod ({ cls := "RightTurns$Traffic", name := "addPassed", desc := "(LRightTurns$Routes;I)V" } : Jvm.MethodName)) ∈ zGW := zw (zt6 (i := 164) rfl) rfl
set_option maxRecDepth 10000 in
theorem zwd1365 : (Jvm.Cond.code ({ cls := "RightTurns$Traffic", name := "addPassed", desc := "(LRightTurns$Routes;I)V" } : Jvm.MethodName) prog_12_method_14_code (5 : Nat) (Option.none : Option Jvm.ClassFile.FieldType)) ∈ zGW := zw (zt6 (i := 165) rfl) rfl
set_option maxRecDepth 10000 in
theorem zwd1366 : (Jvm.Cond.classLink "RightTurnsLaw" (121 : Nat) "RightTurnsModel") ∈ zGW := zw (zt6 (i := 166) rfl) rfl
set_option maxRecDepth 10000 in
theorem zwd1367 : (Jvm.Cond.instantiable "RightTurnsModel" (60 : Nat)) ∈ zGW := zw (zt6 (i := 167) rfl) rfl
set_option maxRecDepth 10000 in
theorem zwd1368 : (Jvm.Cond.methodLink "RightTurnsLaw" (123 : Nat) ({ cls := "RightTurnsModel", name := "<init>", desc := "()V" } : Jvm.MethodName)) ∈ zGW := zw (zt6 (i := 168) rfl) rfl
set_option maxRecDepth 10000 in
theorem zwd1369 : (Jvm.Cond.instanceMethod ({ cls := "RightTurnsModel", name := "<init>", desc := "()V" } : Jvm.MethodName)) ∈ zGW := zw (zt6 (i := 169) rfl) rfl
set_option maxRecDepth 10000 in
theorem zwd1370 : (Jvm.Cond.code ({ cls := "RightTurnsModel", name := "<init>", desc := "()V" } : Jvm.MethodName) prog_14_method_1_code (1 : Nat) (Option.none : Option Jvm.ClassFile.FieldType)) ∈ zGW := zw (zt6 (i := 170) rfl) rfl
set_option maxRecDepth 10000 in
theorem zwd1371 : (Jvm.Cond.methodLink "RightTurnsModel" (1 : Nat) ({ cls := "java/lang/Object", name := "<init>", desc := "()V" } : Jvm.MethodName)) ∈ zGW := zw (zt6 (i := 171) rfl) rfl
set_option maxRecDepth 10000 in
theorem zwd1372 : (Jvm.Cond.classLink "RightTurnsModel" (23 : Nat) "[[I") ∈ zGW := zw (zt6 (i := 172) rfl) rfl
set_option maxRecDepth 10000 in
theorem zwd1374 : (Jvm.Cond.fieldLink "RightTurnsModel" (131 : Nat) "RightTurnsModel" "thrown" "I") ∈ zGW := zw (zt6 (i := 174) rfl) rfl
set_option maxRecDepth 10000 in
theorem zwd1375 : (Jvm.Cond.fieldLink "RightTurnsModel" (134 : Nat) "RightTurnsModel" "tape" "I") ∈ zGW := zw (zt6 (i := 175) rfl) rfl
set_option maxRecDepth 10000 in
theorem zwd1376 : (Jvm.Cond.fieldLink "RightTurnsModel" (137 : Nat) "RightTurnsModel" "size" "I") ∈ zGW := zw (zt6 (i := 176) rfl) rfl
set_option maxRecDepth 10000 in
theorem zwd1377 : (Jvm.Cond.fieldLink "RightTurnsModel" (9 : Nat) "RightTurnsModel" "place" "I") ∈ zGW := zw (zt6 (i := 177) rfl) rfl
set_option maxRecDepth 10000 in
theorem zwd1378 : (Jvm.Cond.fieldLink "RightTurnsModel" (140 : Nat) "RightTurnsModel" "at" "I") ∈ zGW := zw (zt6 (i := 178) rfl) rfl
set_option maxRecDepth 10000 in
theorem zwd1379 : (Jvm.Cond.fieldLink "RightTurnsModel" (147 : Nat) "RightTurnsModel" "fault" "I") ∈ zGW := zw (zt6 (i := 179) rfl) rfl
set_option maxRecDepth 10000 in
theorem zwd1380 : (Jvm.Cond.fieldLink "RightTurnsModel" (150 : Nat) "RightTurnsModel" "faultAt" "I") ∈ zGW := zw (zt6 (i := 180) rfl) rfl
set_option maxRecDepth 10000 in
theorem zwd1381 : (Jvm.Cond.fieldLink "RightTurnsModel" (184 : Nat) "RightTurnsModel" "clauses" "I") ∈ zGW := zw (zt6 (i := 181) rfl) rfl
set_option maxRecDepth 10000 in
theorem zwd1382 : (Jvm.Cond.fieldLink "RightTurnsModel" (13 : Nat) "RightTurnsModel" "fed" "[I") ∈ zGW := zw (zt6 (i := 182) rfl) rfl
set_option maxRecDepth 10000 in
theorem zwd1383 : (Jvm.Cond.fieldLink "RightTurnsModel" (17 : Nat) "RightTurnsModel" "readMany" "[I") ∈ zGW := zw (zt6 (i := 183) rfl) rfl
set_option maxRecDepth 10000 in
theorem zwd1384 : (Jvm.Cond.fieldLink "RightTurnsModel" (20 : Nat) "RightTurnsModel" "many" "[I") ∈ zGW := zw (zt6 (i := 184) rfl) rfl
set_option maxRecDepth 10000 in
theorem zwd1385 : (Jvm.Cond.fieldLink "RightTurnsModel" (25 : Nat) "RightTurnsModel" "readCorner" "[[I") ∈ zGW := zw (zt6 (i := 185) rfl) rfl
set_option maxRecDepth 10000 in
theorem zwd1386 : (Jvm.Cond.fieldLink "RightTurnsModel" (28 : Nat) "RightTurnsModel" "corner" "[[I") ∈ zGW := zw (zt6 (i := 186) rfl) rfl
set_option maxRecDepth 10000 in
theorem zwd1387 : (Jvm.Cond.fieldLink "RightTurnsModel" (31 : Nat) "RightTurnsModel" "readStreet" "[[I") ∈ zGW := zw (zt6 (i := 187) rfl) rfl
set_option maxRecDepth 10000 in
theorem zwd1388 : (Jvm.Cond.fieldLink "RightTurnsModel" (34 : Nat) "RightTurnsModel" "street" "[[I") ∈ zGW := zw (zt6 (i := 188) rfl) rfl
set_option maxRecDepth 10000 in
theorem zwd1389 : (Jvm.Cond.fieldLink "RightTurnsModel" (37 : Nat) "RightTurnsModel" "readRider" "[[I") ∈ zGW := zw (zt6 (i := 189) rfl) rfl
set_option maxRecDepth 10000 in
theorem zwd1390 : (Jvm.Cond.fieldLink "RightTurnsModel" (40 : Nat) "RightTurnsModel" "rider" "[[I") ∈ zGW := zw (zt6 (i := 190) rfl) rfl
set_option maxRecDepth 10000 in
theorem zwd1391 : (Jvm.Cond.fieldLink "RightTurnsModel" (43 : Nat) "RightTurnsModel" "readSign" "[I") ∈ zGW := zw (zt6 (i := 191) rfl) rfl
set_option maxRecDepth 10000 in
theorem zwd1392 : (Jvm.Cond.fieldLink "RightTurnsModel" (46 : Nat) "RightTurnsModel" "readAllowed" "[I") ∈ zGW := zw (zt6 (i := 192) rfl) rfl
set_option maxRecDepth 10000 in
theorem zwd1393 : (Jvm.Cond.fieldLink "RightTurnsModel" (238 : Nat) "RightTurnsModel" "time" "I") ∈ zGW := zw (zt6 (i := 193) rfl) rfl
set_option maxRecDepth 10000 in
theorem zwd1394 : (Jvm.Cond.fieldLink "RightTurnsModel" (49 : Nat) "RightTurnsModel" "signs" "[[I") ∈ zGW := zw (zt6 (i := 194) rfl) rfl
set_option maxRecDepth 10000 in
theorem zwd1395 : (Jvm.Cond.fieldLink "RightTurnsModel" (52 : Nat) "RightTurnsModel" "allowed" "[[I") ∈ zGW := zw (zt6 (i := 195) rfl) rfl
set_option maxRecDepth 10000 in
theorem zwd1396 : (Jvm.Cond.fieldLink "RightTurnsModel" (55 : Nat) "RightTurnsModel" "signNow" "[I") ∈ zGW := zw (zt6 (i := 196) rfl) rfl
set_option maxRecDepth 10000 in
theorem zwd1397 : (Jvm.Cond.fieldLink "RightTurnsModel" (58 : Nat) "RightTurnsModel" "allowedNow" "[I") ∈ zGW := zw (zt6 (i := 197) rfl) rfl
set_option maxRecDepth 10000 in
theorem zwd1398 : (Jvm.Cond.fieldLink "RightTurnsModel" (61 : Nat) "RightTurnsModel" "follows" "[J") ∈ zGW := zw (zt6 (i := 198) rfl) rfl
set_option maxRecDepth 10000 in
theorem zwd1399 : (Jvm.Cond.fieldLink "RightTurnsModel" (65 : Nat) "RightTurnsModel" "reaches" "[J") ∈ zGW := zw (zt6 (i := 199) rfl) rfl
set_option maxRecDepth 10000 in
theorem zwd1400 : (Jvm.Cond.fieldLink "RightTurnsModel" (68 : Nat) "RightTurnsModel" "lengthFrom" "[I") ∈ zGW := zw (zt6 (i := 200) rfl) rfl
set_option maxRecDepth 10000 in
theorem zwd1401 : (Jvm.Cond.fieldLink "RightTurnsModel" (259 : Nat) "RightTurnsModel" "lefts" "I") ∈ zGW := zw (zt6 (i := 201) rfl) rfl
set_option maxRecDepth 10000 in
theorem zwd1402 : (Jvm.Cond.fieldLink "RightTurnsModel" (241 : Nat) "RightTurnsModel" "toldMany" "I") ∈ zGW := zw (zt6 (i := 202) rfl) rfl
set_option maxRecDepth 10000 in
theorem zwd1403 : (Jvm.Cond.fieldLink "RightTurnsModel" (244 : Nat) "RightTurnsModel" "images" "I") ∈ zGW := zw (zt6 (i := 203) rfl) rfl
set_option maxRecDepth 10000 in
theorem zwd1404 : (Jvm.Cond.fieldLink "RightTurnsModel" (71 : Nat) "RightTurnsModel" "left" "[[I") ∈ zGW := zw (zt6 (i := 204) rfl) rfl
set_option maxRecDepth 10000 in
theorem zwd1405 : (Jvm.Cond.fieldLink "RightTurnsModel" (74 : Nat) "RightTurnsModel" "told" "[I") ∈ zGW := zw (zt6 (i := 205) rfl) rfl
set_option maxRecDepth 10000 in
theorem zwd1406 : (Jvm.Cond.fieldLink "RightTurnsModel" (77 : Nat) "RightTurnsModel" "later" "[I") ∈ zGW := zw (zt6 (i := 206) rfl) rfl
set_option maxRecDepth 10000 in
theorem zwd1407 : (Jvm.Cond.fieldLink "RightTurnsModel" (334 : Nat) "RightTurnsModel" "laters" "I") ∈ zGW := zw (zt6 (i := 207) rfl) rfl
set_option maxRecDepth 10000 in
theorem zwd1408 : (Jvm.Cond.fieldLink "RightTurnsModel" (346 : Nat) "RightTurnsModel" "found" "I") ∈ zGW := zw (zt6 (i := 208) rfl) rfl
set_option maxRecDepth 10000 in
theorem zwd1409 : (Jvm.Cond.fieldLink "RightTurnsModel" (349 : Nat) "RightTurnsModel" "foundBits" "I") ∈ zGW := zw (zt6 (i := 209) rfl) rfl
set_option maxRecDepth 10000 in
theorem zwd1410 : (Jvm.Cond.fieldLink "RightTurnsModel" (80 : Nat) "RightTurnsModel" "path" "[[I") ∈ zGW := zw (zt6 (i := 210) rfl) rfl
set_option maxRecDepth 10000 in
theorem zwd1411 : (Jvm.Cond.fieldLink "RightTurnsModel" (83 : Nat) "RightTurnsModel" "pathLong" "[I") ∈ zGW := zw (zt6 (i := 211) rfl) rfl
set_option maxRecDepth 10000 in
theorem zwd1412 : (Jvm.Cond.fieldLink "RightTurnsModel" (86 : Nat) "RightTurnsModel" "on" "[I") ∈ zGW := zw (zt6 (i := 212) rfl) rfl
set_option maxRecDepth 10000 in
theorem zwd1413 : (Jvm.Cond.fieldLink "RightTurnsModel" (89 : Nat) "RightTurnsModel" "toGo" "[I") ∈ zGW := zw (zt6 (i := 213) rfl) rfl
set_option maxRecDepth 10000 in
theorem zwd1414 : (Jvm.Cond.fieldLink "RightTurnsModel" (92 : Nat) "RightTurnsModel" "came" "[I") ∈ zGW := zw (zt6 (i := 214) rfl) rfl
set_option maxRecDepth 10000 in
theorem zwd1415 : (Jvm.Cond.fieldLink "RightTurnsModel" (95 : Nat) "RightTurnsModel" "homeAt" "[I") ∈ zGW := zw (zt6 (i := 215) rfl) rfl
set_option maxRecDepth 10000 in
theorem zwd1416 : (Jvm.Cond.fieldLink "RightTurnsModel" (98 : Nat) "RightTurnsModel" "waits" "[I") ∈ zGW := zw (zt6 (i := 216) rfl) rfl
set_option maxRecDepth 10000 in
theorem zwd1417 : (Jvm.Cond.fieldLink "RightTurnsModel" (375 : Nat) "RightTurnsModel" "rounds" "I") ∈ zGW := zw (zt6 (i := 217) rfl) rfl
set_option maxRecDepth 10000 in
theorem zwd1418 : (Jvm.Cond.fieldLink "RightTurnsModel" (101 : Nat) "RightTurnsModel" "kept" "[[I") ∈ zGW := zw (zt6 (i := 218) rfl) rfl
set_option maxRecDepth 10000 in
theorem zwd1419 : (Jvm.Cond.fieldLink "RightTurnsModel" (417 : Nat) "RightTurnsModel" "spot" "I") ∈ zGW := zw (zt6 (i := 219) rfl) rfl
set_option maxRecDepth 10000 in
theorem zwd1420 : (Jvm.Cond.fieldLink "RightTurnsModel" (104 : Nat) "RightTurnsModel" "roundLeast" "[[I") ∈ zGW := zw (zt6 (i := 220) rfl) rfl
set_option maxRecDepth 10000 in
theorem zwd1421 : (Jvm.Cond.fieldLink "RightTurnsModel" (107 : Nat) "RightTurnsModel" "node" "[I") ∈ zGW := zw (zt6 (i := 221) rfl) rfl
set_option maxRecDepth 10000 in
theorem zwd1422 : (Jvm.Cond.fieldLink "RightTurnsModel" (110 : Nat) "RightTurnsModel" "far" "[[I") ∈ zGW := zw (zt6 (i := 222) rfl) rfl
set_option maxRecDepth 10000 in
theorem zwd1423 : (Jvm.Cond.fieldLink "RightTurnsModel" (113 : Nat) "RightTurnsModel" "behind" "[I") ∈ zGW := zw (zt6 (i := 223) rfl) rfl
set_option maxRecDepth 10000 in
theorem zwd1424 : (Jvm.Cond.fieldLink "RightTurnsModel" (116 : Nat) "RightTurnsModel" "few" "[I") ∈ zGW := zw (zt6 (i := 224) rfl) rfl
set_option maxRecDepth 10000 in
theorem zwd1425 : (Jvm.Cond.fieldLink "RightTurnsModel" (119 : Nat) "RightTurnsModel" "fewNext" "[I") ∈ zGW := zw (zt6 (i := 225) rfl) rfl
set_option maxRecDepth 10000 in
theorem zwd1426 : (Jvm.Cond.fieldLink "RightTurnsModel" (122 : Nat) "RightTurnsModel" "ways" "[J") ∈ zGW := zw (zt6 (i := 226) rfl) rfl
set_option maxRecDepth 10000 in
theorem zwd1427 : (Jvm.Cond.fieldLink "RightTurnsModel" (125 : Nat) "RightTurnsModel" "waysNext" "[J") ∈ zGW := zw (zt6 (i := 227) rfl) rfl
set_option maxRecDepth 10000 in
theorem zwd1428 : (Jvm.Cond.fieldLink "RightTurnsModel" (128 : Nat) "RightTurnsModel" "barS" "I") ∈ zGW := zw (zt6 (i := 228) rfl) rfl
set_option maxRecDepth 10000 in
theorem zwd1429 : (Jvm.Cond.fieldLink "RightTurnsModel" (405 : Nat) "RightTurnsModel" "barT" "I") ∈ zGW := zw (zt6 (i := 229) rfl) rfl
set_option maxRecDepth 10000 in
theorem zwd1430 : (Jvm.Cond.fieldLink "RightTurnsModel" (393 : Nat) "RightTurnsModel" "leastBreaks" "I") ∈ zGW := zw (zt6 (i := 230) rfl) rfl
set_option maxRecDepth 10000 in
theorem zwd1431 : (Jvm.Cond.fieldLink "RightTurnsModel" (398 : Nat) "RightTurnsModel" "leastWays" "J") ∈ zGW := zw (zt6 (i := 231) rfl) rfl
set_option maxRecDepth 10000 in
theorem zwd1432 : (Jvm.Cond.fieldLink "RightTurnsModel" (408 : Nat) "RightTurnsModel" "riding" "I") ∈ zGW := zw (zt6 (i := 232) rfl) rfl
set_option maxRecDepth 10000 in
theorem zwd1433 : (Jvm.Cond.fieldLink "RightTurnsModel" (411 : Nat) "RightTurnsModel" "ridden" "I") ∈ zGW := zw (zt6 (i := 233) rfl) rfl
set_option maxRecDepth 10000 in
theorem zwd1555 : (Jvm.Cond.methodLink "RightTurnsLaw" (135 : Nat) ({ cls := "RightTurnsModel", name := "thrown", desc := "()I" } : Jvm.MethodName)) ∈ zGW := zw (zt7 (i := 115) rfl) rfl
set_option maxRecDepth 10000 in
theorem zwd1556 : (Jvm.Cond.instanceMethod ({ cls := "RightTurnsModel", name := "thrown", desc := "()I" } : Jvm.MethodName)) ∈ zGW := zw (zt7 (i := 116) rfl) rfl
set_option maxRecDepth 10000 in
theorem zwd1557 : (Jvm.Cond.selects "RightTurnsModel" ({ cls := "RightTurnsModel", name := "thrown", desc := "()I" } : Jvm.MethodName) ({ cls := "RightTurnsModel", name := "thrown", desc := "()I" } : Jvm.MethodName)) ∈ zGW := zw (zt7 (i := 117) rfl) rfl
set_option maxRecDepth 10000 in
theorem zwd1558 : (Jvm.Cond.code ({ cls := "RightTurnsModel", name := "thrown", desc := "()I" } : Jvm.MethodName) prog_14_method_2_code (1 : Nat) (Option.some Jvm.ClassFile.FieldType.int)) ∈ zGW := zw (zt7 (i := 118) rfl) rfl
set_option maxRecDepth 10000 in
theorem zwd1559 : (Jvm.Cond.methodLink "RightTurnsLaw" (128 : Nat) ({ cls := "RightTurnsModel", name := "feed", desc := "(IIIII)I" } : Jvm.MethodName)) ∈ zGW := zw (zt7 (i := 119) rfl) rfl
set_option maxRecDepth 10000 in
theorem zwd1560 : (Jvm.Cond.instanceMethod ({ cls := "RightTurnsModel", name := "feed", desc := "(IIIII)I" } : Jvm.MethodName)) ∈ zGW := zw (zt7 (i := 120) rfl) rfl
set_option maxRecDepth 10000 in
theorem zwd1561 : (Jvm.Cond.selects "RightTurnsModel" ({ cls := "RightTurnsModel", name := "feed", desc := "(IIIII)I" } : Jvm.MethodName) ({ cls := "RightTurnsModel", name := "feed", desc := "(IIIII)I" } : Jvm.MethodName)) ∈ zGW := zw (zt7 (i := 121) rfl) rfl
set_option maxRecDepth 10000 in
theorem zwd1562 : (Jvm.Cond.code ({ cls := "RightTurnsModel", name := "feed", desc := "(IIIII)I" } : Jvm.MethodName) prog_14_method_5_code (8 : Nat) (Option.some Jvm.ClassFile.FieldType.int)) ∈ zGW := zw (zt7 (i := 122) rfl) rfl
set_option maxRecDepth 10000 in
theorem zwd1563 : (Jvm.Cond.methodLink "RightTurnsLaw" (134 : Nat) ({ cls := "RightTurnsModel", name := "town", desc := "(I)I" } : Jvm.MethodName)) ∈ zGW := zw (zt7 (i := 123) rfl) rfl
set_option maxRecDepth 10000 in
theorem zwd1564 : (Jvm.Cond.instanceMethod ({ cls := "RightTurnsModel", name := "town", desc := "(I)I" } : Jvm.MethodName)) ∈ zGW := zw (zt7 (i := 124) rfl) rfl
set_option maxRecDepth 10000 in
theorem zwd1565 : (Jvm.Cond.selects "RightTurnsModel" ({ cls := "RightTurnsModel", name := "town", desc := "(I)I" } : Jvm.MethodName) ({ cls := "RightTurnsModel", name := "town", desc := "(I)I" } : Jvm.MethodName)) ∈ zGW := zw (zt7 (i := 125) rfl) rfl
set_option maxRecDepth 10000 in
theorem zwd1566 : (Jvm.Cond.code ({ cls := "RightTurnsModel", name := "town", desc := "(I)I" } : Jvm.MethodName) prog_14_method_28_code (3 : Nat) (Option.some Jvm.ClassFile.FieldType.int)) ∈ zGW := zw (zt7 (i := 126) rfl) rfl
set_option maxRecDepth 10000 in
theorem zwd1567 : (Jvm.Cond.methodLink "RightTurnsModel" (165 : Nat) ({ cls := "RightTurnsModel", name := "in", desc := "(III)Z" } : Jvm.MethodName)) ∈ zGW := zw (zt7 (i := 127) rfl) rfl
set_option maxRecDepth 10000 in
theorem zwd1568 : (Jvm.Cond.static ({ cls := "RightTurnsModel", name := "in", desc := "(III)Z" } : Jvm.MethodName)) ∈ zGW := zw (zt7 (i := 128) rfl) rfl
set_option maxRecDepth 10000 in
theorem zwd1569 : (Jvm.Cond.code ({ cls := "RightTurnsModel", name := "in", desc := "(III)Z" } : Jvm.MethodName) prog_14_method_4_code (3 : Nat) (Option.some Jvm.ClassFile.FieldType.boolean)) ∈ zGW := zw (zt7 (i := 129) rfl) rfl
set_option maxRecDepth 10000 in
theorem zwd1570 : (Jvm.Cond.methodLink "RightTurnsModel" (227 : Nat) ({ cls := "RightTurnsModel", name := "bad", desc := "(ZI)Z" } : Jvm.MethodName)) ∈ zGW := zw (zt7 (i := 130) rfl) rfl
set_option maxRecDepth 10000 in
theorem zwd1572 : (Jvm.Cond.instanceMethod ({ cls := "RightTurnsModel", name := "bad", desc := "(ZI)Z" } : Jvm.MethodName)) ∈ zGW := zw (zt7 (i := 132) rfl) rfl
set_option maxRecDepth 10000 in
theorem zwd1573 : (Jvm.Cond.code ({ cls := "RightTurnsModel", name := "bad", desc := "(ZI)Z" } : Jvm.MethodName) prog_14_method_3_code (3 : Nat) (Option.some Jvm.ClassFile.FieldType.boolean)) ∈ zGW := zw (zt7 (i := 133) rfl) rfl
set_option maxRecDepth 10000 in
theorem zwd1574 : (Jvm.Cond.methodLink "RightTurnsModel" (153 : Nat) ({ cls := "RightTurnsModel", name := "blanks", desc := "()V" } : Jvm.MethodName)) ∈ zGW := zw (zt7 (i := 134) rfl) rfl
set_option maxRecDepth 10000 in
theorem zwd1576 : (Jvm.Cond.instanceMethod ({ cls := "RightTurnsModel", name := "blanks", desc := "()V" } : Jvm.MethodName)) ∈ zGW := zw (zt7 (i := 136) rfl) rfl
set_option maxRecDepth 10000 in
theorem zwd1577 : (Jvm.Cond.code ({ cls := "RightTurnsModel", name := "blanks", desc := "()V" } : Jvm.MethodName) prog_14_method_7_code (1 : Nat) (Option.none : Option Jvm.ClassFile.FieldType)) ∈ zGW := zw (zt7 (i := 137) rfl) rfl
set_option maxRecDepth 10000 in
theorem zwd1578 : (Jvm.Cond.methodLink "RightTurnsModel" (143 : Nat) ({ cls := "RightTurnsModel", name := "byteAt", desc := "(I)I" } : Jvm.MethodName)) ∈ zGW := zw (zt7 (i := 138) rfl) rfl
set_option maxRecDepth 10000 in
theorem zwd1580 : (Jvm.Cond.instanceMethod ({ cls := "RightTurnsModel", name := "byteAt", desc := "(I)I" } : Jvm.MethodName)) ∈ zGW := zw (zt7 (i := 140) rfl) rfl
set_option maxRecDepth 10000 in
theorem zwd1581 : (Jvm.Cond.code ({ cls := "RightTurnsModel", name := "byteAt", desc := "(I)I" } : Jvm.MethodName) prog_14_method_6_code (2 : Nat) (Option.some Jvm.ClassFile.FieldType.int)) ∈ zGW := zw (zt7 (i := 141) rfl) rfl
set_option maxRecDepth 10000 in
theorem zwd1582 : (Jvm.Cond.methodLink "RightTurnsModel" (231 : Nat) ({ cls := "RightTurnsModel", name := "clause", desc := "()V" } : Jvm.MethodName)) ∈ zGW := zw (zt7 (i := 142) rfl) rfl
set_option maxRecDepth 10000 in
theorem zwd1584 : (Jvm.Cond.instanceMethod ({ cls := "RightTurnsModel", name := "clause", desc := "()V" } : Jvm.MethodName)) ∈ zGW := zw (zt7 (i := 144) rfl) rfl
set_option maxRecDepth 10000 in
theorem zwd1585 : (Jvm.Cond.code ({ cls := "RightTurnsModel", name := "clause", desc := "()V" } : Jvm.MethodName) prog_14_method_18_code (2 : Nat) (Option.none : Option Jvm.ClassFile.FieldType)) ∈ zGW := zw (zt7 (i := 145) rfl) rfl
set_option maxRecDepth 10000 in
theorem zwd1586 : (Jvm.Cond.methodLink "RightTurnsModel" (181 : Nat) ({ cls := "RightTurnsModel", name := "kindHere", desc := "()I" } : Jvm.MethodName)) ∈ zGW := zw (zt7 (i := 146) rfl) rfl
set_option maxRecDepth 10000 in
theorem zwd1588 : (Jvm.Cond.instanceMethod ({ cls := "RightTurnsModel", name := "kindHere", desc := "()I" } : Jvm.MethodName)) ∈ zGW := zw (zt7 (i := 148) rfl) rfl
set_option maxRecDepth 10000 in
theorem zwd1589 : (Jvm.Cond.code ({ cls := "RightTurnsModel", name := "kindHere", desc := "()I" } : Jvm.MethodName) prog_14_method_16_code (1 : Nat) (Option.some Jvm.ClassFile.FieldType.int)) ∈ zGW := zw (zt7 (i := 149) rfl) rfl
set_option maxRecDepth 10000 in
theorem zwd1590 : (Jvm.Cond.methodLink "RightTurnsModel" (177 : Nat) ({ cls := "RightTurnsModel", name := "isWord", desc := "(IIIIII)Z" } : Jvm.MethodName)) ∈ zGW := zw (zt7 (i := 150) rfl) rfl
set_option maxRecDepth 10000 in
theorem zwd1592 : (Jvm.Cond.instanceMethod ({ cls := "RightTurnsModel", name := "isWord", desc := "(IIIIII)Z" } : Jvm.MethodName)) ∈ zGW := zw (zt7 (i := 152) rfl) rfl
set_option maxRecDepth 10000 in
theorem zwd1593 : (Jvm.Cond.code ({ cls := "RightTurnsModel", name := "isWord", desc := "(IIIIII)Z" } : Jvm.MethodName) prog_14_method_13_code (7 : Nat) (Option.some Jvm.ClassFile.FieldType.boolean)) ∈ zGW := zw (zt7 (i := 153) rfl) rfl
set_option maxRecDepth 10000 in
theorem zwd1594 : (Jvm.Cond.methodLink "RightTurnsModel" (169 : Nat) ({ cls := "RightTurnsModel", name := "wordHere", desc := "()I" } : Jvm.MethodName)) ∈ zGW := zw (zt7 (i := 154) rfl) rfl
set_option maxRecDepth 10000 in
theorem zwd1596 : (Jvm.Cond.instanceMethod ({ cls := "RightTurnsModel", name := "wordHere", desc := "()I" } : Jvm.MethodName)) ∈ zGW := zw (zt7 (i := 156) rfl) rfl
set_option maxRecDepth 10000 in
theorem zwd1597 : (Jvm.Cond.code ({ cls := "RightTurnsModel", name := "wordHere", desc := "()I" } : Jvm.MethodName) prog_14_method_11_code (3 : Nat) (Option.some Jvm.ClassFile.FieldType.int)) ∈ zGW := zw (zt7 (i := 157) rfl) rfl
set_option maxRecDepth 10000 in
theorem zwd1598 : (Jvm.Cond.methodLink "RightTurnsModel" (173 : Nat) ({ cls := "RightTurnsModel", name := "named", desc := "(IIIIII)I" } : Jvm.MethodName)) ∈ zGW := zw (zt7 (i := 158) rfl) rfl
set_option maxRecDepth 10000 in
theorem zwd1599 : (Jvm.Cond.static ({ cls := "RightTurnsModel", name := "named", desc := "(IIIIII)I" } : Jvm.MethodName)) ∈ zGW := zw (zt7 (i := 159) rfl) rfl
set_option maxRecDepth 10000 in
theorem zwd1600 : (Jvm.Cond.code ({ cls := "RightTurnsModel", name := "named", desc := "(IIIIII)I" } : Jvm.MethodName) prog_14_method_12_code (7 : Nat) (Option.some Jvm.ClassFile.FieldType.int)) ∈ zGW := zw (zt7 (i := 160) rfl) rfl
set_option maxRecDepth 10000 in
theorem zwd1601 : (Jvm.Cond.methodLink "RightTurnsModel" (160 : Nat) ({ cls := "RightTurnsModel", name := "wrong", desc := "(II)V" } : Jvm.MethodName)) ∈ zGW := zw (zt7 (i := 161) rfl) rfl
set_option maxRecDepth 10000 in
theorem zwd1603 : (Jvm.Cond.instanceMethod ({ cls := "RightTurnsModel", name := "wrong", desc := "(II)V" } : Jvm.MethodName)) ∈ zGW := zw (zt7 (i := 163) rfl) rfl
set_option maxRecDepth 10000 in
theorem zwd1604 : (Jvm.Cond.code ({ cls := "RightTurnsModel", name := "wrong", desc := "(II)V" } : Jvm.MethodName) prog_14_method_8_code (3 : Nat) (Option.none : Option Jvm.ClassFile.FieldType)) ∈ zGW := zw (zt7 (i := 164) rfl) rfl
set_option maxRecDepth 10000 in
theorem zwd1605 : (Jvm.Cond.methodLink "RightTurnsModel" (187 : Nat) ({ cls := "RightTurnsModel", name := "ones", desc := "(I)I" } : Jvm.MethodName)) ∈ zGW := zw (zt7 (i := 165) rfl) rfl
set_option maxRecDepth 10000 in
theorem zwd1606 : (Jvm.Cond.static ({ cls := "RightTurnsModel", name := "ones", desc := "(I)I" } : Jvm.MethodName)) ∈ zGW := zw (zt7 (i := 166) rfl) rfl
set_option maxRecDepth 10000 in
theorem zwd1607 : (Jvm.Cond.code ({ cls := "RightTurnsModel", name := "ones", desc := "(I)I" } : Jvm.MethodName) prog_14_method_17_code (3 : Nat) (Option.some Jvm.ClassFile.FieldType.int)) ∈ zGW := zw (zt7 (i := 167) rfl) rfl
set_option maxRecDepth 10000 in
theorem zwd1608 : (Jvm.Cond.methodLink "RightTurnsModel" (190 : Nat) ({ cls := "RightTurnsModel", name := "skipWord", desc := "()V" } : Jvm.MethodName)) ∈ zGW := zw (zt7 (i := 168) rfl) rfl
set_option maxRecDepth 10000 in
theorem zwd1610 : (Jvm.Cond.instanceMethod ({ cls := "RightTurnsModel", name := "skipWord", desc := "()V" } : Jvm.MethodName)) ∈ zGW := zw (zt7 (i := 170) rfl) rfl
set_option maxRecDepth 10000 in
theorem zwd1611 : (Jvm.Cond.code ({ cls := "RightTurnsModel", name := "skipWord", desc := "()V" } : Jvm.MethodName) prog_14_method_14_code (1 : Nat) (Option.none : Option Jvm.ClassFile.FieldType)) ∈ zGW := zw (zt7 (i := 171) rfl) rfl
set_option maxRecDepth 10000 in
theorem zwd1612 : (Jvm.Cond.methodLink "RightTurnsModel" (193 : Nat) ({ cls := "RightTurnsModel", name := "readsCorner", desc := "()V" } : Jvm.MethodName)) ∈ zGW := zw (zt7 (i := 172) rfl) rfl
set_option maxRecDepth 10000 in
theorem zwd1614 : (Jvm.Cond.instanceMethod ({ cls := "RightTurnsModel", name := "readsCorner", desc := "()V" } : Jvm.MethodName)) ∈ zGW := zw (zt7 (i := 174) rfl) rfl
set_option maxRecDepth 10000 in
theorem zwd1615 : (Jvm.Cond.code ({ cls := "RightTurnsModel", name := "readsCorner", desc := "()V" } : Jvm.MethodName) prog_14_method_19_code (5 : Nat) (Option.none : Option Jvm.ClassFile.FieldType)) ∈ zGW := zw (zt7 (i := 175) rfl) rfl
set_option maxRecDepth 10000 in
theorem zwd1616 : (Jvm.Cond.methodLink "RightTurnsModel" (216 : Nat) ({ cls := "RightTurnsModel", name := "number", desc := "(II)I" } : Jvm.MethodName)) ∈ zGW := zw (zt7 (i := 176) rfl) rfl
set_option maxRecDepth 10000 in
theorem zwd1618 : (Jvm.Cond.instanceMethod ({ cls := "RightTurnsModel", name := "number", desc := "(II)I" } : Jvm.MethodName)) ∈ zGW := zw (zt7 (i := 178) rfl) rfl
set_option maxRecDepth 10000 in
theorem zwd1619 : (Jvm.Cond.code ({ cls := "RightTurnsModel", name := "number", desc := "(II)I" } : Jvm.MethodName) prog_14_method_10_code (5 : Nat) (Option.some Jvm.ClassFile.FieldType.int)) ∈ zGW := zw (zt7 (i := 179) rfl) rfl
set_option maxRecDepth 10000 in
theorem zwd1620 : (Jvm.Cond.methodLink "RightTurnsModel" (156 : Nat) ({ cls := "RightTurnsModel", name := "isDigit", desc := "(I)Z" } : Jvm.MethodName)) ∈ zGW := zw (zt7 (i := 180) rfl) rfl
set_option maxRecDepth 10000 in
theorem zwd1621 : (Jvm.Cond.static ({ cls := "RightTurnsModel", name := "isDigit", desc := "(I)Z" } : Jvm.MethodName)) ∈ zGW := zw (zt7 (i := 181) rfl) rfl
set_option maxRecDepth 10000 in
theorem zwd1622 : (Jvm.Cond.code ({ cls := "RightTurnsModel", name := "isDigit", desc := "(I)Z" } : Jvm.MethodName) prog_14_method_9_code (1 : Nat) (Option.some Jvm.ClassFile.FieldType.boolean)) ∈ zGW := zw (zt7 (i := 182) rfl) rfl
set_option maxRecDepth 10000 in
theorem zwd1623 : (Jvm.Cond.constant "RightTurnsModel" (164 : Nat) (100000 : Int32)) ∈ zGW := zw (zt7 (i := 183) rfl) rfl
set_option maxRecDepth 10000 in
theorem zwd1624 : (Jvm.Cond.methodLink "RightTurnsModel" (196 : Nat) ({ cls := "RightTurnsModel", name := "readsStreet", desc := "()V" } : Jvm.MethodName)) ∈ zGW := zw (zt7 (i := 184) rfl) rfl
set_option maxRecDepth 10000 in
theorem zwd1626 : (Jvm.Cond.instanceMethod ({ cls := "RightTurnsModel", name := "readsStreet", desc := "()V" } : Jvm.MethodName)) ∈ zGW := zw (zt7 (i := 186) rfl) rfl
set_option maxRecDepth 10000 in
theorem zwd1627 : (Jvm.Cond.code ({ cls := "RightTurnsModel", name := "readsStreet", desc := "()V" } : Jvm.MethodName) prog_14_method_21_code (5 : Nat) (Option.none : Option Jvm.ClassFile.FieldType)) ∈ zGW := zw (zt7 (i := 187) rfl) rfl
set_option maxRecDepth 10000 in
theorem zwd1628 : (Jvm.Cond.methodLink "RightTurnsModel" (220 : Nat) ({ cls := "RightTurnsModel", name := "other", desc := "(II)I" } : Jvm.MethodName)) ∈ zGW := zw (zt7 (i := 188) rfl) rfl
set_option maxRecDepth 10000 in
theorem zwd1630 : (Jvm.Cond.instanceMethod ({ cls := "RightTurnsModel", name := "other", desc := "(II)I" } : Jvm.MethodName)) ∈ zGW := zw (zt7 (i := 190) rfl) rfl
set_option maxRecDepth 10000 in
theorem zwd1631 : (Jvm.Cond.code ({ cls := "RightTurnsModel", name := "other", desc := "(II)I" } : Jvm.MethodName) prog_14_method_20_code (5 : Nat) (Option.some Jvm.ClassFile.FieldType.int)) ∈ zGW := zw (zt7 (i := 191) rfl) rfl
set_option maxRecDepth 10000 in
theorem zwd1632 : (Jvm.Cond.methodLink "RightTurnsModel" (199 : Nat) ({ cls := "RightTurnsModel", name := "readsOne", desc := "()V" } : Jvm.MethodName)) ∈ zGW := zw (zt7 (i := 192) rfl) rfl
set_option maxRecDepth 10000 in
theorem zwd1634 : (Jvm.Cond.instanceMethod ({ cls := "RightTurnsModel", name := "readsOne", desc := "()V" } : Jvm.MethodName)) ∈ zGW := zw (zt7 (i := 194) rfl) rfl
set_option maxRecDepth 10000 in
theorem zwd1635 : (Jvm.Cond.code ({ cls := "RightTurnsModel", name := "readsOne", desc := "()V" } : Jvm.MethodName) prog_14_method_22_code (2 : Nat) (Option.none : Option Jvm.ClassFile.FieldType)) ∈ zGW := zw (zt7 (i := 195) rfl) rfl
set_option maxRecDepth 10000 in
theorem zwd1636 : (Jvm.Cond.methodLink "RightTurnsModel" (202 : Nat) ({ cls := "RightTurnsModel", name := "readsTurn", desc := "([I)V" } : Jvm.MethodName)) ∈ zGW := zw (zt7 (i := 196) rfl) rfl
set_option maxRecDepth 10000 in
theorem zwd1638 : (Jvm.Cond.instanceMethod ({ cls := "RightTurnsModel", name := "readsTurn", desc := "([I)V" } : Jvm.MethodName)) ∈ zGW := zw (zt7 (i := 198) rfl) rfl
set_option maxRecDepth 10000 in
theorem zwd1639 : (Jvm.Cond.code ({ cls := "RightTurnsModel", name := "readsTurn", desc := "([I)V" } : Jvm.MethodName) prog_14_method_24_code (5 : Nat) (Option.none : Option Jvm.ClassFile.FieldType)) ∈ zGW := zw (zt7 (i := 199) rfl) rfl
set_option maxRecDepth 10000 in
theorem zwd1640 : (Jvm.Cond.methodLink "RightTurnsModel" (223 : Nat) ({ cls := "RightTurnsModel", name := "meet", desc := "([[III)Z" } : Jvm.MethodName)) ∈ zGW := zw (zt7 (i := 200) rfl) rfl
set_option maxRecDepth 10000 in
theorem zwd1641 : (Jvm.Cond.static ({ cls := "RightTurnsModel", name := "meet", desc := "([[III)Z" } : Jvm.MethodName)) ∈ zGW := zw (zt7 (i := 201) rfl) rfl
set_option maxRecDepth 10000 in
theorem zwd1642 : (Jvm.Cond.code ({ cls := "RightTurnsModel", name := "meet", desc := "([[III)Z" } : Jvm.MethodName) prog_14_method_23_code (3 : Nat) (Option.some Jvm.ClassFile.FieldType.boolean)) ∈ zGW := zw (zt7 (i := 202) rfl) rfl
set_option maxRecDepth 10000 in
theorem zwd1643 : (Jvm.Cond.methodLink "RightTurnsModel" (206 : Nat) ({ cls := "RightTurnsModel", name := "readsBox", desc := "()V" } : Jvm.MethodName)) ∈ zGW := zw (zt7 (i := 203) rfl) rfl
set_option maxRecDepth 10000 in
theorem zwd1645 : (Jvm.Cond.instanceMethod ({ cls := "RightTurnsModel", name := "readsBox", desc := "()V" } : Jvm.MethodName)) ∈ zGW := zw (zt7 (i := 205) rfl) rfl
set_option maxRecDepth 10000 in
theorem zwd1646 : (Jvm.Cond.code ({ cls := "RightTurnsModel", name := "readsBox", desc := "()V" } : Jvm.MethodName) prog_14_method_25_code (2 : Nat) (Option.none : Option Jvm.ClassFile.FieldType)) ∈ zGW := zw (zt7 (i := 206) rfl) rfl
set_option maxRecDepth 10000 in
theorem zwd1647 : (Jvm.Cond.methodLink "RightTurnsModel" (209 : Nat) ({ cls := "RightTurnsModel", name := "readsRider", desc := "()V" } : Jvm.MethodName)) ∈ zGW := zw (zt7 (i := 207) rfl) rfl
set_option maxRecDepth 10000 in
theorem zwd1649 : (Jvm.Cond.instanceMethod ({ cls := "RightTurnsModel", name := "readsRider", desc := "()V" } : Jvm.MethodName)) ∈ zGW := zw (zt7 (i := 209) rfl) rfl
set_option maxRecDepth 10000 in
theorem zwd1650 : (Jvm.Cond.code ({ cls := "RightTurnsModel", name := "readsRider", desc := "()V" } : Jvm.MethodName) prog_14_method_26_code (5 : Nat) (Option.none : Option Jvm.ClassFile.FieldType)) ∈ zGW := zw (zt7 (i := 210) rfl) rfl
set_option maxRecDepth 10000 in
theorem zwd1651 : (Jvm.Cond.methodLink "RightTurnsModel" (212 : Nat) ({ cls := "RightTurnsModel", name := "closes", desc := "(I)V" } : Jvm.MethodName)) ∈ zGW := zw (zt7 (i := 211) rfl) rfl
set_option maxRecDepth 10000 in
theorem zwd1653 : (Jvm.Cond.instanceMethod ({ cls := "RightTurnsModel", name := "closes", desc := "(I)V" } : Jvm.MethodName)) ∈ zGW := zw (zt7 (i := 213) rfl) rfl
set_option maxRecDepth 10000 in
theorem zwd1654 : (Jvm.Cond.code ({ cls := "RightTurnsModel", name := "closes", desc := "(I)V" } : Jvm.MethodName) prog_14_method_15_code (2 : Nat) (Option.none : Option Jvm.ClassFile.FieldType)) ∈ zGW := zw (zt7 (i := 214) rfl) rfl
set_option maxRecDepth 10000 in
theorem zwd1655 : (Jvm.Cond.methodLink "RightTurnsModel" (234 : Nat) ({ cls := "RightTurnsModel", name := "copies", desc := "([[I[[I)V" } : Jvm.MethodName)) ∈ zGW := zw (zt7 (i := 215) rfl) rfl
set_option maxRecDepth 10000 in
theorem zwd1656 : (Jvm.Cond.static ({ cls := "RightTurnsModel", name := "copies", desc := "([[I[[I)V" } : Jvm.MethodName)) ∈ zGW := zw (zt7 (i := 216) rfl) rfl
set_option maxRecDepth 10000 in
theorem zwd1657 : (Jvm.Cond.code ({ cls := "RightTurnsModel", name := "copies", desc := "([[I[[I)V" } : Jvm.MethodName) prog_14_method_27_code (4 : Nat) (Option.none : Option Jvm.ClassFile.FieldType)) ∈ zGW := zw (zt7 (i := 217) rfl) rfl
set_option maxRecDepth 10000 in
theorem zwd1658 : (Jvm.Cond.methodLink "RightTurnsModel" (247 : Nat) ({ cls := "RightTurnsModel", name := "findLefts", desc := "()V" } : Jvm.MethodName)) ∈ zGW := zw (zt7 (i := 218) rfl) rfl
set_option maxRecDepth 10000 in
theorem zwd1660 : (Jvm.Cond.instanceMethod ({ cls := "RightTurnsModel", name := "findLefts", desc := "()V" } : Jvm.MethodName)) ∈ zGW := zw (zt7 (i := 220) rfl) rfl
set_option maxRecDepth 10000 in
theorem zwd1661 : (Jvm.Cond.code ({ cls := "RightTurnsModel", name := "findLefts", desc := "()V" } : Jvm.MethodName) prog_14_method_36_code (5 : Nat) (Option.none : Option Jvm.ClassFile.FieldType)) ∈ zGW := zw (zt7 (i := 221) rfl) rfl
set_option maxRecDepth 10000 in
theorem zwd1662 : (Jvm.Cond.methodLink "RightTurnsModel" (262 : Nat) ({ cls := "RightTurnsModel", name := "isArc", desc := "(I)Z" } : Jvm.MethodName)) ∈ zGW := zw (zt7 (i := 222) rfl) rfl
set_option maxRecDepth 10000 in
theorem zwd1664 : (Jvm.Cond.instanceMethod ({ cls := "RightTurnsModel", name := "isArc", desc := "(I)Z" } : Jvm.MethodName)) ∈ zGW := zw (zt7 (i := 224) rfl) rfl
set_option maxRecDepth 10000 in
theorem zwd1665 : (Jvm.Cond.code ({ cls := "RightTurnsModel", name := "isArc", desc := "(I)Z" } : Jvm.MethodName) prog_14_method_30_code (2 : Nat) (Option.some Jvm.ClassFile.FieldType.boolean)) ∈ zGW := zw (zt7 (i := 225) rfl) rfl
set_option maxRecDepth 10000 in
theorem zwd1666 : (Jvm.Cond.methodLink "RightTurnsModel" (265 : Nat) ({ cls := "RightTurnsModel", name := "turnOf", desc := "(II)I" } : Jvm.MethodName)) ∈ zGW := zw (zt7 (i := 226) rfl) rfl
set_option maxRecDepth 10000 in
theorem zwd1668 : (Jvm.Cond.instanceMethod ({ cls := "RightTurnsModel", name := "turnOf", desc := "(II)I" } : Jvm.MethodName)) ∈ zGW := zw (zt7 (i := 228) rfl) rfl
set_option maxRecDepth 10000 in
theorem zwd1669 : (Jvm.Cond.code ({ cls := "RightTurnsModel", name := "turnOf", desc := "(II)I" } : Jvm.MethodName) prog_14_method_35_code (4 : Nat) (Option.some Jvm.ClassFile.FieldType.int)) ∈ zGW := zw (zt7 (i := 229) rfl) rfl
set_option maxRecDepth 10000 in
theorem zwd1670 : (Jvm.Cond.methodLink "RightTurnsModel" (250 : Nat) ({ cls := "RightTurnsModel", name := "endOf", desc := "(I)I" } : Jvm.MethodName)) ∈ zGW := zw (zt7 (i := 230) rfl) rfl
set_option maxRecDepth 10000 in
theorem zwd1672 : (Jvm.Cond.instanceMethod ({ cls := "RightTurnsModel", name := "endOf", desc := "(I)I" } : Jvm.MethodName)) ∈ zGW := zw (zt7 (i := 232) rfl) rfl
set_option maxRecDepth 10000 in
theorem zwd1673 : (Jvm.Cond.code ({ cls := "RightTurnsModel", name := "endOf", desc := "(I)I" } : Jvm.MethodName) prog_14_method_32_code (2 : Nat) (Option.some Jvm.ClassFile.FieldType.int)) ∈ zGW := zw (zt7 (i := 233) rfl) rfl
set_option maxRecDepth 10000 in
theorem zwd1674 : (Jvm.Cond.methodLink "RightTurnsModel" (253 : Nat) ({ cls := "RightTurnsModel", name := "beginOf", desc := "(I)I" } : Jvm.MethodName)) ∈ zGW := zw (zt7 (i := 234) rfl) rfl
set_option maxRecDepth 10000 in
theorem zwd1676 : (Jvm.Cond.instanceMethod ({ cls := "RightTurnsModel", name := "beginOf", desc := "(I)I" } : Jvm.MethodName)) ∈ zGW := zw (zt7 (i := 236) rfl) rfl
set_option maxRecDepth 10000 in
theorem zwd1677 : (Jvm.Cond.code ({ cls := "RightTurnsModel", name := "beginOf", desc := "(I)I" } : Jvm.MethodName) prog_14_method_31_code (2 : Nat) (Option.some Jvm.ClassFile.FieldType.int)) ∈ zGW := zw (zt7 (i := 237) rfl) rfl
set_option maxRecDepth 10000 in
theorem zwd1678 : (Jvm.Cond.methodLink "RightTurnsModel" (256 : Nat) ({ cls := "RightTurnsModel", name := "wayOf", desc := "(II)I" } : Jvm.MethodName)) ∈ zGW := zw (zt7 (i := 238) rfl) rfl
set_option maxRecDepth 10000 in
theorem zwd1680 : (Jvm.Cond.instanceMethod ({ cls := "RightTurnsModel", name := "wayOf", desc := "(II)I" } : Jvm.MethodName)) ∈ zGW := zw (zt8 (i := 0) rfl) rfl
set_option maxRecDepth 10000 in
theorem zwd1681 : (Jvm.Cond.code ({ cls := "RightTurnsModel", name := "wayOf", desc := "(II)I" } : Jvm.MethodName) prog_14_method_34_code (3 : Nat) (Option.some Jvm.ClassFile.FieldType.int)) ∈ zGW := zw (zt8 (i := 1) rfl) rfl
set_option maxRecDepth 10000 in
theorem zwd1682 : (Jvm.Cond.methodLink "RightTurnsLaw" (142 : Nat) ({ cls := "RightTurnsModel", name := "fault", desc := "()I" } : Jvm.MethodName)) ∈ zGW := zw (zt8 (i := 2) rfl) rfl
set_option maxRecDepth 10000 in
theorem zwd1683 : (Jvm.Cond.instanceMethod ({ cls := "RightTurnsModel", name := "fault", desc := "()I" } : Jvm.MethodName)) ∈ zGW := zw (zt8 (i := 3) rfl) rfl
set_option maxRecDepth 10000 in
theorem zwd1684 : (Jvm.Cond.selects "RightTurnsModel" ({ cls := "RightTurnsModel", name := "fault", desc := "()I" } : Jvm.MethodName) ({ cls := "RightTurnsModel", name := "fault", desc := "()I" } : Jvm.MethodName)) ∈ zGW := zw (zt8 (i := 4) rfl) rfl
set_option maxRecDepth 10000 in
theorem zwd1685 : (Jvm.Cond.code ({ cls := "RightTurnsModel", name := "fault", desc := "()I" } : Jvm.MethodName) prog_14_method_29_code (1 : Nat) (Option.some Jvm.ClassFile.FieldType.int)) ∈ zGW := zw (zt8 (i := 5) rfl) rfl
set_option maxRecDepth 10000 in
theorem zwd1686 : (Jvm.Cond.methodLink "RightTurnsLaw" (145 : Nat) ({ cls := "RightTurnsModel", name := "told", desc := "(I)I" } : Jvm.MethodName)) ∈ zGW := zw (zt8 (i := 6) rfl) rfl
set_option maxRecDepth 10000 in
theorem zwd1687 : (Jvm.Cond.instanceMethod ({ cls := "RightTurnsModel", name := "told", desc := "(I)I" } : Jvm.MethodName)) ∈ zGW := zw (zt8 (i := 7) rfl) rfl
set_option maxRecDepth 10000 in
theorem zwd1688 : (Jvm.Cond.selects "RightTurnsModel" ({ cls := "RightTurnsModel", name := "told", desc := "(I)I" } : Jvm.MethodName) ({ cls := "RightTurnsModel", name := "told", desc := "(I)I" } : Jvm.MethodName)) ∈ zGW := zw (zt8 (i := 8) rfl) rfl
set_option maxRecDepth 10000 in
theorem zwd1689 : (Jvm.Cond.code ({ cls := "RightTurnsModel", name := "told", desc := "(I)I" } : Jvm.MethodName) prog_14_method_37_code (2 : Nat) (Option.some Jvm.ClassFile.FieldType.int)) ∈ zGW := zw (zt8 (i := 9) rfl) rfl
set_option maxRecDepth 10000 in
theorem zwd1690 : (Jvm.Cond.methodLink "RightTurnsLaw" (149 : Nat) ({ cls := "RightTurnsModel", name := "street", desc := "(II)I" } : Jvm.MethodName)) ∈ zGW := zw (zt8 (i := 10) rfl) rfl
set_option maxRecDepth 10000 in
theorem zwd1691 : (Jvm.Cond.instanceMethod ({ cls := "RightTurnsModel", name := "street", desc := "(II)I" } : Jvm.MethodName)) ∈ zGW := zw (zt8 (i := 11) rfl) rfl
set_option maxRecDepth 10000 in
theorem zwd1692 : (Jvm.Cond.selects "RightTurnsModel" ({ cls := "RightTurnsModel", name := "street", desc := "(II)I" } : Jvm.MethodName) ({ cls := "RightTurnsModel", name := "street", desc := "(II)I" } : Jvm.MethodName)) ∈ zGW := zw (zt8 (i := 12) rfl) rfl
set_option maxRecDepth 10000 in
theorem zwd1693 : (Jvm.Cond.code ({ cls := "RightTurnsModel", name := "street", desc := "(II)I" } : Jvm.MethodName) prog_14_method_39_code (3 : Nat) (Option.some Jvm.ClassFile.FieldType.int)) ∈ zGW := zw (zt8 (i := 13) rfl) rfl
set_option maxRecDepth 10000 in
theorem zwd1694 : (Jvm.Cond.methodLink "RightTurnsModel" (268 : Nat) ({ cls := "RightTurnsModel", name := "isStreet", desc := "(I)Z" } : Jvm.MethodName)) ∈ zGW := zw (zt8 (i := 14) rfl) rfl
set_option maxRecDepth 10000 in
theorem zwd1696 : (Jvm.Cond.instanceMethod ({ cls := "RightTurnsModel", name := "isStreet", desc := "(I)Z" } : Jvm.MethodName)) ∈ zGW := zw (zt8 (i := 16) rfl) rfl
set_option maxRecDepth 10000 in
theorem zwd1697 : (Jvm.Cond.code ({ cls := "RightTurnsModel", name := "isStreet", desc := "(I)Z" } : Jvm.MethodName) prog_14_method_38_code (2 : Nat) (Option.some Jvm.ClassFile.FieldType.boolean)) ∈ zGW := zw (zt8 (i := 17) rfl) rfl
set_option maxRecDepth 10000 in
theorem zwd1698 : (Jvm.Cond.methodLink "RightTurnsLaw" (152 : Nat) ({ cls := "RightTurnsModel", name := "turn", desc := "(II)I" } : Jvm.MethodName)) ∈ zGW := zw (zt8 (i := 18) rfl) rfl
set_option maxRecDepth 10000 in
theorem zwd1699 : (Jvm.Cond.instanceMethod ({ cls := "RightTurnsModel", name := "turn", desc := "(II)I" } : Jvm.MethodName)) ∈ zGW := zw (zt8 (i := 19) rfl) rfl
set_option maxRecDepth 10000 in
theorem zwd1700 : (Jvm.Cond.selects "RightTurnsModel" ({ cls := "RightTurnsModel", name := "turn", desc := "(II)I" } : Jvm.MethodName) ({ cls := "RightTurnsModel", name := "turn", desc := "(II)I" } : Jvm.MethodName)) ∈ zGW := zw (zt8 (i := 20) rfl) rfl
set_option maxRecDepth 10000 in
theorem zwd1701 : (Jvm.Cond.code ({ cls := "RightTurnsModel", name := "turn", desc := "(II)I" } : Jvm.MethodName) prog_14_method_40_code (3 : Nat) (Option.some Jvm.ClassFile.FieldType.int)) ∈ zGW := zw (zt8 (i := 21) rfl) rfl
set_option maxRecDepth 10000 in
theorem zwd1702 : (Jvm.Cond.methodLink "RightTurnsLaw" (156 : Nat) ({ cls := "RightTurnsModel", name := "may", desc := "(III)Z" } : Jvm.MethodName)) ∈ zGW := zw (zt8 (i := 22) rfl) rfl
set_option maxRecDepth 10000 in
theorem zwd1703 : (Jvm.Cond.instanceMethod ({ cls := "RightTurnsModel", name := "may", desc := "(III)Z" } : Jvm.MethodName)) ∈ zGW := zw (zt8 (i := 23) rfl) rfl
set_option maxRecDepth 10000 in
theorem zwd1704 : (Jvm.Cond.selects "RightTurnsModel" ({ cls := "RightTurnsModel", name := "may", desc := "(III)Z" } : Jvm.MethodName) ({ cls := "RightTurnsModel", name := "may", desc := "(III)Z" } : Jvm.MethodName)) ∈ zGW := zw (zt8 (i := 24) rfl) rfl
set_option maxRecDepth 10000 in
theorem zwd1705 : (Jvm.Cond.code ({ cls := "RightTurnsModel", name := "may", desc := "(III)Z" } : Jvm.MethodName) prog_14_method_46_code (4 : Nat) (Option.some Jvm.ClassFile.FieldType.boolean)) ∈ zGW := zw (zt8 (i := 25) rfl) rfl
set_option maxRecDepth 10000 in
theorem zwd1706 : (Jvm.Cond.methodLink "RightTurnsModel" (281 : Nat) ({ cls := "RightTurnsModel", name := "isTime", desc := "(I)Z" } : Jvm.MethodName)) ∈ zGW := zw (zt8 (i := 26) rfl) rfl
set_option maxRecDepth 10000 in
theorem zwd1708 : (Jvm.Cond.instanceMethod ({ cls := "RightTurnsModel", name := "isTime", desc := "(I)Z" } : Jvm.MethodName)) ∈ zGW := zw (zt8 (i := 28) rfl) rfl
set_option maxRecDepth 10000 in
theorem zwd1709 : (Jvm.Cond.code ({ cls := "RightTurnsModel", name := "isTime", desc := "(I)Z" } : Jvm.MethodName) prog_14_method_45_code (2 : Nat) (Option.some Jvm.ClassFile.FieldType.boolean)) ∈ zGW := zw (zt8 (i := 29) rfl) rfl
set_option maxRecDepth 10000 in
theorem zwd1710 : (Jvm.Cond.methodLink "RightTurnsModel" (275 : Nat) ({ cls := "RightTurnsModel", name := "laysTime", desc := "(I)V" } : Jvm.MethodName)) ∈ zGW := zw (zt8 (i := 30) rfl) rfl
set_option maxRecDepth 10000 in
theorem zwd1712 : (Jvm.Cond.instanceMethod ({ cls := "RightTurnsModel", name := "laysTime", desc := "(I)V" } : Jvm.MethodName)) ∈ zGW := zw (zt8 (i := 32) rfl) rfl
set_option maxRecDepth 10000 in
theorem zwd1713 : (Jvm.Cond.code ({ cls := "RightTurnsModel", name := "laysTime", desc := "(I)V" } : Jvm.MethodName) prog_14_method_42_code (3 : Nat) (Option.none : Option Jvm.ClassFile.FieldType)) ∈ zGW := zw (zt8 (i := 33) rfl) rfl
set_option maxRecDepth 10000 in
theorem zwd1714 : (Jvm.Cond.methodLink "RightTurnsModel" (271 : Nat) ({ cls := "RightTurnsModel", name := "mayNow", desc := "(II)Z" } : Jvm.MethodName)) ∈ zGW := zw (zt8 (i := 34) rfl) rfl
set_option maxRecDepth 10000 in
theorem zwd1716 : (Jvm.Cond.instanceMethod ({ cls := "RightTurnsModel", name := "mayNow", desc := "(II)Z" } : Jvm.MethodName)) ∈ zGW := zw (zt8 (i := 36) rfl) rfl
set_option maxRecDepth 10000 in
theorem zwd1717 : (Jvm.Cond.code ({ cls := "RightTurnsModel", name := "mayNow", desc := "(II)Z" } : Jvm.MethodName) prog_14_method_41_code (5 : Nat) (Option.some Jvm.ClassFile.FieldType.boolean)) ∈ zGW := zw (zt8 (i := 37) rfl) rfl
set_option maxRecDepth 10000 in
theorem zwd1718 : (Jvm.Cond.methodLink "RightTurnsLaw" (160 : Nat) ({ cls := "RightTurnsModel", name := "sign", desc := "(IIZ)I" } : Jvm.MethodName)) ∈ zGW := zw (zt8 (i := 38) rfl) rfl
set_option maxRecDepth 10000 in
theorem zwd1719 : (Jvm.Cond.instanceMethod ({ cls := "RightTurnsModel", name := "sign", desc := "(IIZ)I" } : Jvm.MethodName)) ∈ zGW := zw (zt8 (i := 39) rfl) rfl
set_option maxRecDepth 10000 in
theorem zwd1720 : (Jvm.Cond.selects "RightTurnsModel" ({ cls := "RightTurnsModel", name := "sign", desc := "(IIZ)I" } : Jvm.MethodName) ({ cls := "RightTurnsModel", name := "sign", desc := "(IIZ)I" } : Jvm.MethodName)) ∈ zGW := zw (zt8 (i := 40) rfl) rfl
set_option maxRecDepth 10000 in
theorem zwd1721 : (Jvm.Cond.code ({ cls := "RightTurnsModel", name := "sign", desc := "(IIZ)I" } : Jvm.MethodName) prog_14_method_50_code (4 : Nat) (Option.some Jvm.ClassFile.FieldType.int)) ∈ zGW := zw (zt8 (i := 41) rfl) rfl
set_option maxRecDepth 10000 in
theorem zwd1722 : (Jvm.Cond.methodLink "RightTurnsModel" (290 : Nat) ({ cls := "RightTurnsModel", name := "changesTo", desc := "([[IIIZ)I" } : Jvm.MethodName)) ∈ zGW := zw (zt8 (i := 42) rfl) rfl
set_option maxRecDepth 10000 in
theorem zwd1724 : (Jvm.Cond.instanceMethod ({ cls := "RightTurnsModel", name := "changesTo", desc := "([[IIIZ)I" } : Jvm.MethodName)) ∈ zGW := zw (zt8 (i := 44) rfl) rfl
set_option maxRecDepth 10000 in
theorem zwd1725 : (Jvm.Cond.code ({ cls := "RightTurnsModel", name := "changesTo", desc := "([[IIIZ)I" } : Jvm.MethodName) prog_14_method_49_code (5 : Nat) (Option.some Jvm.ClassFile.FieldType.int)) ∈ zGW := zw (zt8 (i := 45) rfl) rfl
set_option maxRecDepth 10000 in
theorem zwd1726 : (Jvm.Cond.methodLink "RightTurnsModel" (284 : Nat) ({ cls := "RightTurnsModel", name := "areStreets", desc := "(II)Z" } : Jvm.MethodName)) ∈ zGW := zw (zt8 (i := 46) rfl) rfl
set_option maxRecDepth 10000 in
theorem zwd1728 : (Jvm.Cond.instanceMethod ({ cls := "RightTurnsModel", name := "areStreets", desc := "(II)Z" } : Jvm.MethodName)) ∈ zGW := zw (zt8 (i := 48) rfl) rfl
set_option maxRecDepth 10000 in
theorem zwd1729 : (Jvm.Cond.code ({ cls := "RightTurnsModel", name := "areStreets", desc := "(II)Z" } : Jvm.MethodName) prog_14_method_48_code (3 : Nat) (Option.some Jvm.ClassFile.FieldType.boolean)) ∈ zGW := zw (zt8 (i := 49) rfl) rfl
set_option maxRecDepth 10000 in
theorem zwd1730 : (Jvm.Cond.methodLink "RightTurnsModel" (287 : Nat) ({ cls := "RightTurnsModel", name := "changes", desc := "()I" } : Jvm.MethodName)) ∈ zGW := zw (zt8 (i := 50) rfl) rfl
set_option maxRecDepth 10000 in
theorem zwd1732 : (Jvm.Cond.instanceMethod ({ cls := "RightTurnsModel", name := "changes", desc := "()I" } : Jvm.MethodName)) ∈ zGW := zw (zt8 (i := 52) rfl) rfl
set_option maxRecDepth 10000 in
theorem zwd1733 : (Jvm.Cond.code ({ cls := "RightTurnsModel", name := "changes", desc := "()I" } : Jvm.MethodName) prog_14_method_47_code (2 : Nat) (Option.some Jvm.ClassFile.FieldType.int)) ∈ zGW := zw (zt8 (i := 53) rfl) rfl
set_option maxRecDepth 10000 in
theorem zwd1734 : (Jvm.Cond.methodLink "RightTurnsLaw" (163 : Nat) ({ cls := "RightTurnsModel", name := "allow", desc := "(IIZ)I" } : Jvm.MethodName)) ∈ zGW := zw (zt8 (i := 54) rfl) rfl
set_option maxRecDepth 10000 in
theorem zwd1735 : (Jvm.Cond.instanceMethod ({ cls := "RightTurnsModel", name := "allow", desc := "(IIZ)I" } : Jvm.MethodName)) ∈ zGW := zw (zt8 (i := 55) rfl) rfl
set_option maxRecDepth 10000 in
theorem zwd1736 : (Jvm.Cond.selects "RightTurnsModel" ({ cls := "RightTurnsModel", name := "allow", desc := "(IIZ)I" } : Jvm.MethodName) ({ cls := "RightTurnsModel", name := "allow", desc := "(IIZ)I" } : Jvm.MethodName)) ∈ zGW := zw (zt8 (i := 56) rfl) rfl
set_option maxRecDepth 10000 in
theorem zwd1737 : (Jvm.Cond.code ({ cls := "RightTurnsModel", name := "allow", desc := "(IIZ)I" } : Jvm.MethodName) prog_14_method_51_code (4 : Nat) (Option.some Jvm.ClassFile.FieldType.int)) ∈ zGW := zw (zt8 (i := 57) rfl) rfl
set_option maxRecDepth 10000 in
theorem zwd1738 : (Jvm.Cond.methodLink "RightTurnsLaw" (166 : Nat) ({ cls := "RightTurnsModel", name := "back", desc := "(I)I" } : Jvm.MethodName)) ∈ zGW := zw (zt8 (i := 58) rfl) rfl
set_option maxRecDepth 10000 in
theorem zwd1739 : (Jvm.Cond.instanceMethod ({ cls := "RightTurnsModel", name := "back", desc := "(I)I" } : Jvm.MethodName)) ∈ zGW := zw (zt8 (i := 59) rfl) rfl
set_option maxRecDepth 10000 in
theorem zwd1740 : (Jvm.Cond.selects "RightTurnsModel" ({ cls := "RightTurnsModel", name := "back", desc := "(I)I" } : Jvm.MethodName) ({ cls := "RightTurnsModel", name := "back", desc := "(I)I" } : Jvm.MethodName)) ∈ zGW := zw (zt8 (i := 60) rfl) rfl
set_option maxRecDepth 10000 in
theorem zwd1741 : (Jvm.Cond.code ({ cls := "RightTurnsModel", name := "back", desc := "(I)I" } : Jvm.MethodName) prog_14_method_52_code (3 : Nat) (Option.some Jvm.ClassFile.FieldType.int)) ∈ zGW := zw (zt8 (i := 61) rfl) rfl
set_option maxRecDepth 10000 in
theorem zwd1742 : (Jvm.Cond.methodLink "RightTurnsLaw" (170 : Nat) ({ cls := "RightTurnsModel", name := "stands", desc := "(IIII)Z" } : Jvm.MethodName)) ∈ zGW := zw (zt8 (i := 62) rfl) rfl
set_option maxRecDepth 10000 in
theorem zwd1743 : (Jvm.Cond.instanceMethod ({ cls := "RightTurnsModel", name := "stands", desc := "(IIII)Z" } : Jvm.MethodName)) ∈ zGW := zw (zt8 (i := 63) rfl) rfl
set_option maxRecDepth 10000 in
theorem zwd1744 : (Jvm.Cond.selects "RightTurnsModel" ({ cls := "RightTurnsModel", name := "stands", desc := "(IIII)Z" } : Jvm.MethodName) ({ cls := "RightTurnsModel", name := "stands", desc := "(IIII)Z" } : Jvm.MethodName)) ∈ zGW := zw (zt8 (i := 64) rfl) rfl
set_option maxRecDepth 10000 in
theorem zwd1745 : (Jvm.Cond.code ({ cls := "RightTurnsModel", name := "stands", desc := "(IIII)Z" } : Jvm.MethodName) prog_14_method_53_code (5 : Nat) (Option.some Jvm.ClassFile.FieldType.boolean)) ∈ zGW := zw (zt8 (i := 65) rfl) rfl
set_option maxRecDepth 10000 in
theorem zwd1746 : (Jvm.Cond.methodLink "RightTurnsLaw" (173 : Nat) ({ cls := "RightTurnsModel", name := "ride", desc := "(III)I" } : Jvm.MethodName)) ∈ zGW := zw (zt8 (i := 66) rfl) rfl
set_option maxRecDepth 10000 in
theorem zwd1747 : (Jvm.Cond.instanceMethod ({ cls := "RightTurnsModel", name := "ride", desc := "(III)I" } : Jvm.MethodName)) ∈ zGW := zw (zt8 (i := 67) rfl) rfl
set_option maxRecDepth 10000 in
theorem zwd1748 : (Jvm.Cond.selects "RightTurnsModel" ({ cls := "RightTurnsModel", name := "ride", desc := "(III)I" } : Jvm.MethodName) ({ cls := "RightTurnsModel", name := "ride", desc := "(III)I" } : Jvm.MethodName)) ∈ zGW := zw (zt8 (i := 68) rfl) rfl
set_option maxRecDepth 10000 in
theorem zwd1749 : (Jvm.Cond.code ({ cls := "RightTurnsModel", name := "ride", desc := "(III)I" } : Jvm.MethodName) prog_14_method_60_code (4 : Nat) (Option.some Jvm.ClassFile.FieldType.int)) ∈ zGW := zw (zt8 (i := 69) rfl) rfl
set_option maxRecDepth 10000 in
theorem zwd1750 : (Jvm.Cond.methodLink "RightTurnsModel" (307 : Nat) ({ cls := "RightTurnsModel", name := "isCorner", desc := "(I)Z" } : Jvm.MethodName)) ∈ zGW := zw (zt8 (i := 70) rfl) rfl
set_option maxRecDepth 10000 in
theorem zwd1752 : (Jvm.Cond.instanceMethod ({ cls := "RightTurnsModel", name := "isCorner", desc := "(I)Z" } : Jvm.MethodName)) ∈ zGW := zw (zt8 (i := 72) rfl) rfl
set_option maxRecDepth 10000 in
theorem zwd1753 : (Jvm.Cond.code ({ cls := "RightTurnsModel", name := "isCorner", desc := "(I)Z" } : Jvm.MethodName) prog_14_method_54_code (2 : Nat) (Option.some Jvm.ClassFile.FieldType.boolean)) ∈ zGW := zw (zt8 (i := 73) rfl) rfl
set_option maxRecDepth 10000 in
theorem zwd1754 : (Jvm.Cond.methodLink "RightTurnsModel" (310 : Nat) ({ cls := "RightTurnsModel", name := "asks", desc := "(I)V" } : Jvm.MethodName)) ∈ zGW := zw (zt8 (i := 74) rfl) rfl
set_option maxRecDepth 10000 in
theorem zwd1756 : (Jvm.Cond.instanceMethod ({ cls := "RightTurnsModel", name := "asks", desc := "(I)V" } : Jvm.MethodName)) ∈ zGW := zw (zt8 (i := 76) rfl) rfl
set_option maxRecDepth 10000 in
theorem zwd1757 : (Jvm.Cond.code ({ cls := "RightTurnsModel", name := "asks", desc := "(I)V" } : Jvm.MethodName) prog_14_method_44_code (2 : Nat) (Option.none : Option Jvm.ClassFile.FieldType)) ∈ zGW := zw (zt8 (i := 77) rfl) rfl
set_option maxRecDepth 10000 in
theorem zwd1758 : (Jvm.Cond.methodLink "RightTurnsModel" (278 : Nat) ({ cls := "RightTurnsModel", name := "layFollows", desc := "()V" } : Jvm.MethodName)) ∈ zGW := zw (zt8 (i := 78) rfl) rfl
set_option maxRecDepth 10000 in
theorem zwd1760 : (Jvm.Cond.instanceMethod ({ cls := "RightTurnsModel", name := "layFollows", desc := "()V" } : Jvm.MethodName)) ∈ zGW := zw (zt8 (i := 80) rfl) rfl
set_option maxRecDepth 10000 in
theorem zwd1761 : (Jvm.Cond.code ({ cls := "RightTurnsModel", name := "layFollows", desc := "()V" } : Jvm.MethodName) prog_14_method_43_code (3 : Nat) (Option.none : Option Jvm.ClassFile.FieldType)) ∈ zGW := zw (zt8 (i := 81) rfl) rfl
set_option maxRecDepth 10000 in
theorem zwd1762 : (Jvm.Cond.methodLink "RightTurnsModel" (313 : Nat) ({ cls := "RightTurnsModel", name := "rideOf", desc := "(II)I" } : Jvm.MethodName)) ∈ zGW := zw (zt8 (i := 82) rfl) rfl
set_option maxRecDepth 10000 in
theorem zwd1764 : (Jvm.Cond.instanceMethod ({ cls := "RightTurnsModel", name := "rideOf", desc := "(II)I" } : Jvm.MethodName)) ∈ zGW := zw (zt8 (i := 84) rfl) rfl
set_option maxRecDepth 10000 in
theorem zwd1765 : (Jvm.Cond.code ({ cls := "RightTurnsModel", name := "rideOf", desc := "(II)I" } : Jvm.MethodName) prog_14_method_59_code (4 : Nat) (Option.some Jvm.ClassFile.FieldType.int)) ∈ zGW := zw (zt8 (i := 85) rfl) rfl
set_option maxRecDepth 10000 in
theorem zwd1766 : (Jvm.Cond.methodLink "RightTurnsModel" (301 : Nat) ({ cls := "RightTurnsModel", name := "layLengths", desc := "(I)V" } : Jvm.MethodName)) ∈ zGW := zw (zt8 (i := 86) rfl) rfl
set_option maxRecDepth 10000 in
theorem zwd1768 : (Jvm.Cond.instanceMethod ({ cls := "RightTurnsModel", name := "layLengths", desc := "(I)V" } : Jvm.MethodName)) ∈ zGW := zw (zt8 (i := 88) rfl) rfl
set_option maxRecDepth 10000 in
theorem zwd1769 : (Jvm.Cond.code ({ cls := "RightTurnsModel", name := "layLengths", desc := "(I)V" } : Jvm.MethodName) prog_14_method_56_code (5 : Nat) (Option.none : Option Jvm.ClassFile.FieldType)) ∈ zGW := zw (zt8 (i := 89) rfl) rfl
set_option maxRecDepth 10000 in
theorem zwd1770 : (Jvm.Cond.constant "RightTurnsModel" (294 : Nat) (1000000000 : Int32)) ∈ zGW := zw (zt8 (i := 90) rfl) rfl
set_option maxRecDepth 10000 in
theorem zwd1771 : (Jvm.Cond.methodLink "RightTurnsModel" (295 : Nat) ({ cls := "RightTurnsModel", name := "longOf", desc := "(I)I" } : Jvm.MethodName)) ∈ zGW := zw (zt8 (i := 91) rfl) rfl
set_option maxRecDepth 10000 in
theorem zwd1773 : (Jvm.Cond.instanceMethod ({ cls := "RightTurnsModel", name := "longOf", desc := "(I)I" } : Jvm.MethodName)) ∈ zGW := zw (zt8 (i := 93) rfl) rfl
set_option maxRecDepth 10000 in
theorem zwd1774 : (Jvm.Cond.code ({ cls := "RightTurnsModel", name := "longOf", desc := "(I)I" } : Jvm.MethodName) prog_14_method_33_code (2 : Nat) (Option.some Jvm.ClassFile.FieldType.int)) ∈ zGW := zw (zt8 (i := 94) rfl) rfl
set_option maxRecDepth 10000 in
theorem zwd1775 : (Jvm.Cond.methodLink "RightTurnsModel" (298 : Nat) ({ cls := "RightTurnsModel", name := "isAfter", desc := "(II)Z" } : Jvm.MethodName)) ∈ zGW := zw (zt8 (i := 95) rfl) rfl
set_option maxRecDepth 10000 in
theorem zwd1777 : (Jvm.Cond.instanceMethod ({ cls := "RightTurnsModel", name := "isAfter", desc := "(II)Z" } : Jvm.MethodName)) ∈ zGW := zw (zt8 (i := 97) rfl) rfl
set_option maxRecDepth 10000 in
theorem zwd1778 : (Jvm.Cond.code ({ cls := "RightTurnsModel", name := "isAfter", desc := "(II)Z" } : Jvm.MethodName) prog_14_method_55_code (3 : Nat) (Option.some Jvm.ClassFile.FieldType.boolean)) ∈ zGW := zw (zt8 (i := 98) rfl) rfl
set_option maxRecDepth 10000 in
theorem zwd1779 : (Jvm.Cond.methodLink "RightTurnsModel" (304 : Nat) ({ cls := "RightTurnsModel", name := "firstArc", desc := "(I)I" } : Jvm.MethodName)) ∈ zGW := zw (zt8 (i := 99) rfl) rfl
set_option maxRecDepth 10000 in
theorem zwd1781 : (Jvm.Cond.instanceMethod ({ cls := "RightTurnsModel", name := "firstArc", desc := "(I)I" } : Jvm.MethodName)) ∈ zGW := zw (zt8 (i := 101) rfl) rfl
set_option maxRecDepth 10000 in
theorem zwd1782 : (Jvm.Cond.code ({ cls := "RightTurnsModel", name := "firstArc", desc := "(I)I" } : Jvm.MethodName) prog_14_method_57_code (4 : Nat) (Option.some Jvm.ClassFile.FieldType.int)) ∈ zGW := zw (zt8 (i := 102) rfl) rfl
set_option maxRecDepth 10000 in
theorem zwd1783 : (Jvm.Cond.methodLink "RightTurnsLaw" (176 : Nat) ({ cls := "RightTurnsModel", name := "step", desc := "(IIII)I" } : Jvm.MethodName)) ∈ zGW := zw (zt8 (i := 103) rfl) rfl
set_option maxRecDepth 10000 in
theorem zwd1784 : (Jvm.Cond.instanceMethod ({ cls := "RightTurnsModel", name := "step", desc := "(IIII)I" } : Jvm.MethodName)) ∈ zGW := zw (zt8 (i := 104) rfl) rfl
set_option maxRecDepth 10000 in
theorem zwd1785 : (Jvm.Cond.selects "RightTurnsModel" ({ cls := "RightTurnsModel", name := "step", desc := "(IIII)I" } : Jvm.MethodName) ({ cls := "RightTurnsModel", name := "step", desc := "(IIII)I" } : Jvm.MethodName)) ∈ zGW := zw (zt8 (i := 105) rfl) rfl
set_option maxRecDepth 10000 in
theorem zwd1786 : (Jvm.Cond.code ({ cls := "RightTurnsModel", name := "step", desc := "(IIII)I" } : Jvm.MethodName) prog_14_method_61_code (7 : Nat) (Option.some Jvm.ClassFile.FieldType.int)) ∈ zGW := zw (zt8 (i := 106) rfl) rfl
set_option maxRecDepth 10000 in
theorem zwd1787 : (Jvm.Cond.methodLink "RightTurnsModel" (316 : Nat) ({ cls := "RightTurnsModel", name := "nextArc", desc := "(II)I" } : Jvm.MethodName)) ∈ zGW := zw (zt8 (i := 107) rfl) rfl
set_option maxRecDepth 10000 in
theorem zwd1789 : (Jvm.Cond.instanceMethod ({ cls := "RightTurnsModel", name := "nextArc", desc := "(II)I" } : Jvm.MethodName)) ∈ zGW := zw (zt8 (i := 109) rfl) rfl
set_option maxRecDepth 10000 in
theorem zwd1790 : (Jvm.Cond.code ({ cls := "RightTurnsModel", name := "nextArc", desc := "(II)I" } : Jvm.MethodName) prog_14_method_58_code (4 : Nat) (Option.some Jvm.ClassFile.FieldType.int)) ∈ zGW := zw (zt8 (i := 110) rfl) rfl
set_option maxRecDepth 10000 in
theorem zwd1791 : (Jvm.Cond.methodLink "RightTurnsLaw" (179 : Nat) ({ cls := "RightTurnsModel", name := "reach", desc := "(III)I" } : Jvm.MethodName)) ∈ zGW := zw (zt8 (i := 111) rfl) rfl
set_option maxRecDepth 10000 in
theorem zwd1792 : (Jvm.Cond.instanceMethod ({ cls := "RightTurnsModel", name := "reach", desc := "(III)I" } : Jvm.MethodName)) ∈ zGW := zw (zt8 (i := 112) rfl) rfl
set_option maxRecDepth 10000 in
theorem zwd1793 : (Jvm.Cond.selects "RightTurnsModel" ({ cls := "RightTurnsModel", name := "reach", desc := "(III)I" } : Jvm.MethodName) ({ cls := "RightTurnsModel", name := "reach", desc := "(III)I" } : Jvm.MethodName)) ∈ zGW := zw (zt8 (i := 113) rfl) rfl
set_option maxRecDepth 10000 in
theorem zwd1794 : (Jvm.Cond.code ({ cls := "RightTurnsModel", name := "reach", desc := "(III)I" } : Jvm.MethodName) prog_14_method_65_code (4 : Nat) (Option.some Jvm.ClassFile.FieldType.int)) ∈ zGW := zw (zt8 (i := 114) rfl) rfl
set_option maxRecDepth 10000 in
theorem zwd1795 : (Jvm.Cond.methodLink "RightTurnsModel" (322 : Nat) ({ cls := "RightTurnsModel", name := "layReaches", desc := "()V" } : Jvm.MethodName)) ∈ zGW := zw (zt8 (i := 115) rfl) rfl
set_option maxRecDepth 10000 in
theorem zwd1797 : (Jvm.Cond.instanceMethod ({ cls := "RightTurnsModel", name := "layReaches", desc := "()V" } : Jvm.MethodName)) ∈ zGW := zw (zt8 (i := 117) rfl) rfl
set_option maxRecDepth 10000 in
theorem zwd1798 : (Jvm.Cond.code ({ cls := "RightTurnsModel", name := "layReaches", desc := "()V" } : Jvm.MethodName) prog_14_method_62_code (3 : Nat) (Option.none : Option Jvm.ClassFile.FieldType)) ∈ zGW := zw (zt8 (i := 118) rfl) rfl
set_option maxRecDepth 10000 in
theorem zwd1799 : (Jvm.Cond.methodLink "RightTurnsModel" (319 : Nat) ({ cls := "RightTurnsModel", name := "reachOf", desc := "(I)I" } : Jvm.MethodName)) ∈ zGW := zw (zt8 (i := 119) rfl) rfl
set_option maxRecDepth 10000 in
theorem zwd1801 : (Jvm.Cond.instanceMethod ({ cls := "RightTurnsModel", name := "reachOf", desc := "(I)I" } : Jvm.MethodName)) ∈ zGW := zw (zt8 (i := 121) rfl) rfl
set_option maxRecDepth 10000 in
theorem zwd1802 : (Jvm.Cond.code ({ cls := "RightTurnsModel", name := "reachOf", desc := "(I)I" } : Jvm.MethodName) prog_14_method_63_code (5 : Nat) (Option.some Jvm.ClassFile.FieldType.int)) ∈ zGW := zw (zt8 (i := 122) rfl) rfl
set_option maxRecDepth 10000 in
theorem zwd1803 : (Jvm.Cond.methodLink "RightTurnsModel" (325 : Nat) ({ cls := "RightTurnsModel", name := "homeOf", desc := "(I)I" } : Jvm.MethodName)) ∈ zGW := zw (zt8 (i := 123) rfl) rfl
set_option maxRecDepth 10000 in
theorem zwd1805 : (Jvm.Cond.instanceMethod ({ cls := "RightTurnsModel", name := "homeOf", desc := "(I)I" } : Jvm.MethodName)) ∈ zGW := zw (zt8 (i := 125) rfl) rfl
set_option maxRecDepth 10000 in
theorem zwd1806 : (Jvm.Cond.code ({ cls := "RightTurnsModel", name := "homeOf", desc := "(I)I" } : Jvm.MethodName) prog_14_method_64_code (4 : Nat) (Option.some Jvm.ClassFile.FieldType.int)) ∈ zGW := zw (zt8 (i := 126) rfl) rfl
set_option maxRecDepth 10000 in
theorem zwd1807 : (Jvm.Cond.methodLink "RightTurnsLaw" (182 : Nat) ({ cls := "RightTurnsModel", name := "parts", desc := "(II)I" } : Jvm.MethodName)) ∈ zGW := zw (zt8 (i := 127) rfl) rfl
set_option maxRecDepth 10000 in
theorem zwd1808 : (Jvm.Cond.instanceMethod ({ cls := "RightTurnsModel", name := "parts", desc := "(II)I" } : Jvm.MethodName)) ∈ zGW := zw (zt8 (i := 128) rfl) rfl
set_option maxRecDepth 10000 in
theorem zwd1809 : (Jvm.Cond.selects "RightTurnsModel" ({ cls := "RightTurnsModel", name := "parts", desc := "(II)I" } : Jvm.MethodName) ({ cls := "RightTurnsModel", name := "parts", desc := "(II)I" } : Jvm.MethodName)) ∈ zGW := zw (zt8 (i := 129) rfl) rfl
set_option maxRecDepth 10000 in
theorem zwd1810 : (Jvm.Cond.code ({ cls := "RightTurnsModel", name := "parts", desc := "(II)I" } : Jvm.MethodName) prog_14_method_67_code (9 : Nat) (Option.some Jvm.ClassFile.FieldType.int)) ∈ zGW := zw (zt8 (i := 130) rfl) rfl
set_option maxRecDepth 10000 in
theorem zwd1811 : (Jvm.Cond.methodLink "RightTurnsModel" (328 : Nat) ({ cls := "RightTurnsModel", name := "areOne", desc := "(II)Z" } : Jvm.MethodName)) ∈ zGW := zw (zt8 (i := 131) rfl) rfl
set_option maxRecDepth 10000 in
theorem zwd1813 : (Jvm.Cond.instanceMethod ({ cls := "RightTurnsModel", name := "areOne", desc := "(II)Z" } : Jvm.MethodName)) ∈ zGW := zw (zt8 (i := 133) rfl) rfl
set_option maxRecDepth 10000 in
theorem zwd1814 : (Jvm.Cond.code ({ cls := "RightTurnsModel", name := "areOne", desc := "(II)Z" } : Jvm.MethodName) prog_14_method_66_code (3 : Nat) (Option.some Jvm.ClassFile.FieldType.boolean)) ∈ zGW := zw (zt8 (i := 134) rfl) rfl
set_option maxRecDepth 10000 in
theorem zwd1815 : (Jvm.Cond.methodLink "RightTurnsLaw" (185 : Nat) ({ cls := "RightTurnsModel", name := "together", desc := "(III)Z" } : Jvm.MethodName)) ∈ zGW := zw (zt8 (i := 135) rfl) rfl
set_option maxRecDepth 10000 in
theorem zwd1816 : (Jvm.Cond.instanceMethod ({ cls := "RightTurnsModel", name := "together", desc := "(III)Z" } : Jvm.MethodName)) ∈ zGW := zw (zt8 (i := 136) rfl) rfl
set_option maxRecDepth 10000 in
theorem zwd1817 : (Jvm.Cond.selects "RightTurnsModel" ({ cls := "RightTurnsModel", name := "together", desc := "(III)Z" } : Jvm.MethodName) ({ cls := "RightTurnsModel", name := "together", desc := "(III)Z" } : Jvm.MethodName)) ∈ zGW := zw (zt8 (i := 137) rfl) rfl
set_option maxRecDepth 10000 in
theorem zwd1818 : (Jvm.Cond.code ({ cls := "RightTurnsModel", name := "together", desc := "(III)Z" } : Jvm.MethodName) prog_14_method_68_code (4 : Nat) (Option.some Jvm.ClassFile.FieldType.boolean)) ∈ zGW := zw (zt8 (i := 138) rfl) rfl
set_option maxRecDepth 10000 in
theorem zwd1819 : (Jvm.Cond.methodLink "RightTurnsLaw" (188 : Nat) ({ cls := "RightTurnsModel", name := "open", desc := "(II)I" } : Jvm.MethodName)) ∈ zGW := zw (zt8 (i := 139) rfl) rfl
set_option maxRecDepth 10000 in
theorem zwd1820 : (Jvm.Cond.instanceMethod ({ cls := "RightTurnsModel", name := "open", desc := "(II)I" } : Jvm.MethodName)) ∈ zGW := zw (zt8 (i := 140) rfl) rfl
set_option maxRecDepth 10000 in
theorem zwd1821 : (Jvm.Cond.selects "RightTurnsModel" ({ cls := "RightTurnsModel", name := "open", desc := "(II)I" } : Jvm.MethodName) ({ cls := "RightTurnsModel", name := "open", desc := "(II)I" } : Jvm.MethodName)) ∈ zGW := zw (zt8 (i := 141) rfl) rfl
set_option maxRecDepth 10000 in
theorem zwd1822 : (Jvm.Cond.code ({ cls := "RightTurnsModel", name := "open", desc := "(II)I" } : Jvm.MethodName) prog_14_method_71_code (4 : Nat) (Option.some Jvm.ClassFile.FieldType.int)) ∈ zGW := zw (zt8 (i := 142) rfl) rfl
set_option maxRecDepth 10000 in
theorem zwd1823 : (Jvm.Cond.methodLink "RightTurnsModel" (331 : Nat) ({ cls := "RightTurnsModel", name := "pairs", desc := "()I" } : Jvm.MethodName)) ∈ zGW := zw (zt8 (i := 143) rfl) rfl
set_option maxRecDepth 10000 in
theorem zwd1825 : (Jvm.Cond.instanceMethod ({ cls := "RightTurnsModel", name := "pairs", desc := "()I" } : Jvm.MethodName)) ∈ zGW := zw (zt8 (i := 145) rfl) rfl
set_option maxRecDepth 10000 in
theorem zwd1826 : (Jvm.Cond.code ({ cls := "RightTurnsModel", name := "pairs", desc := "()I" } : Jvm.MethodName) prog_14_method_69_code (3 : Nat) (Option.some Jvm.ClassFile.FieldType.int)) ∈ zGW := zw (zt8 (i := 146) rfl) rfl
set_option maxRecDepth 10000 in
theorem zwd1827 : (Jvm.Cond.methodLink "RightTurnsLaw" (192 : Nat) ({ cls := "RightTurnsModel", name := "since", desc := "(IIIZ)I" } : Jvm.MethodName)) ∈ zGW := zw (zt8 (i := 147) rfl) rfl
set_option maxRecDepth 10000 in
theorem zwd1828 : (Jvm.Cond.instanceMethod ({ cls := "RightTurnsModel", name := "since", desc := "(IIIZ)I" } : Jvm.MethodName)) ∈ zGW := zw (zt8 (i := 148) rfl) rfl
set_option maxRecDepth 10000 in
theorem zwd1829 : (Jvm.Cond.selects "RightTurnsModel" ({ cls := "RightTurnsModel", name := "since", desc := "(IIIZ)I" } : Jvm.MethodName) ({ cls := "RightTurnsModel", name := "since", desc := "(IIIZ)I" } : Jvm.MethodName)) ∈ zGW := zw (zt8 (i := 149) rfl) rfl
set_option maxRecDepth 10000 in
theorem zwd1830 : (Jvm.Cond.code ({ cls := "RightTurnsModel", name := "since", desc := "(IIIZ)I" } : Jvm.MethodName) prog_14_method_72_code (6 : Nat) (Option.some Jvm.ClassFile.FieldType.int)) ∈ zGW := zw (zt8 (i := 150) rfl) rfl
set_option maxRecDepth 10000 in
theorem zwd1831 : (Jvm.Cond.methodLink "RightTurnsLaw" (196 : Nat) ({ cls := "RightTurnsModel", name := "left", desc := "(I)I" } : Jvm.MethodName)) ∈ zGW := zw (zt8 (i := 151) rfl) rfl
set_option maxRecDepth 10000 in
theorem zwd1832 : (Jvm.Cond.instanceMethod ({ cls := "RightTurnsModel", name := "left", desc := "(I)I" } : Jvm.MethodName)) ∈ zGW := zw (zt8 (i := 152) rfl) rfl
set_option maxRecDepth 10000 in
theorem zwd1833 : (Jvm.Cond.selects "RightTurnsModel" ({ cls := "RightTurnsModel", name := "left", desc := "(I)I" } : Jvm.MethodName) ({ cls := "RightTurnsModel", name := "left", desc := "(I)I" } : Jvm.MethodName)) ∈ zGW := zw (zt8 (i := 153) rfl) rfl
set_option maxRecDepth 10000 in
theorem zwd1834 : (Jvm.Cond.code ({ cls := "RightTurnsModel", name := "left", desc := "(I)I" } : Jvm.MethodName) prog_14_method_73_code (2 : Nat) (Option.some Jvm.ClassFile.FieldType.int)) ∈ zGW := zw (zt8 (i := 154) rfl) rfl
set_option maxRecDepth 10000 in
theorem zwd1835 : (Jvm.Cond.methodLink "RightTurnsLaw" (199 : Nat) ({ cls := "RightTurnsModel", name := "candidates", desc := "(I)I" } : Jvm.MethodName)) ∈ zGW := zw (zt8 (i := 155) rfl) rfl
set_option maxRecDepth 10000 in
theorem zwd1836 : (Jvm.Cond.instanceMethod ({ cls := "RightTurnsModel", name := "candidates", desc := "(I)I" } : Jvm.MethodName)) ∈ zGW := zw (zt8 (i := 156) rfl) rfl
set_option maxRecDepth 10000 in
theorem zwd1837 : (Jvm.Cond.selects "RightTurnsModel" ({ cls := "RightTurnsModel", name := "candidates", desc := "(I)I" } : Jvm.MethodName) ({ cls := "RightTurnsModel", name := "candidates", desc := "(I)I" } : Jvm.MethodName)) ∈ zGW := zw (zt8 (i := 157) rfl) rfl
set_option maxRecDepth 10000 in
theorem zwd1838 : (Jvm.Cond.code ({ cls := "RightTurnsModel", name := "candidates", desc := "(I)I" } : Jvm.MethodName) prog_14_method_77_code (2 : Nat) (Option.some Jvm.ClassFile.FieldType.int)) ∈ zGW := zw (zt8 (i := 158) rfl) rfl
set_option maxRecDepth 10000 in
theorem zwd1839 : (Jvm.Cond.methodLink "RightTurnsModel" (343 : Nat) ({ cls := "RightTurnsModel", name := "findLater", desc := "(I)V" } : Jvm.MethodName)) ∈ zGW := zw (zt8 (i := 159) rfl) rfl
set_option maxRecDepth 10000 in
theorem zwd1841 : (Jvm.Cond.instanceMethod ({ cls := "RightTurnsModel", name := "findLater", desc := "(I)V" } : Jvm.MethodName)) ∈ zGW := zw (zt8 (i := 161) rfl) rfl
set_option maxRecDepth 10000 in
theorem zwd1842 : (Jvm.Cond.code ({ cls := "RightTurnsModel", name := "findLater", desc := "(I)V" } : Jvm.MethodName) prog_14_method_76_code (3 : Nat) (Option.none : Option Jvm.ClassFile.FieldType)) ∈ zGW := zw (zt8 (i := 162) rfl) rfl
set_option maxRecDepth 10000 in
theorem zwd1843 : (Jvm.Cond.methodLink "RightTurnsModel" (337 : Nat) ({ cls := "RightTurnsModel", name := "isAllowed", desc := "(I)Z" } : Jvm.MethodName)) ∈ zGW := zw (zt8 (i := 163) rfl) rfl
set_option maxRecDepth 10000 in
theorem zwd1845 : (Jvm.Cond.instanceMethod ({ cls := "RightTurnsModel", name := "isAllowed", desc := "(I)Z" } : Jvm.MethodName)) ∈ zGW := zw (zt8 (i := 165) rfl) rfl
set_option maxRecDepth 10000 in
theorem zwd1846 : (Jvm.Cond.code ({ cls := "RightTurnsModel", name := "isAllowed", desc := "(I)Z" } : Jvm.MethodName) prog_14_method_74_code (2 : Nat) (Option.some Jvm.ClassFile.FieldType.boolean)) ∈ zGW := zw (zt8 (i := 166) rfl) rfl
set_option maxRecDepth 10000 in
theorem zwd1847 : (Jvm.Cond.methodLink "RightTurnsModel" (340 : Nat) ({ cls := "RightTurnsModel", name := "isSigned", desc := "(I)Z" } : Jvm.MethodName)) ∈ zGW := zw (zt8 (i := 167) rfl) rfl
set_option maxRecDepth 10000 in
theorem zwd1849 : (Jvm.Cond.instanceMethod ({ cls := "RightTurnsModel", name := "isSigned", desc := "(I)Z" } : Jvm.MethodName)) ∈ zGW := zw (zt8 (i := 169) rfl) rfl
set_option maxRecDepth 10000 in
theorem zwd1850 : (Jvm.Cond.code ({ cls := "RightTurnsModel", name := "isSigned", desc := "(I)Z" } : Jvm.MethodName) prog_14_method_75_code (2 : Nat) (Option.some Jvm.ClassFile.FieldType.boolean)) ∈ zGW := zw (zt8 (i := 170) rfl) rfl
set_option maxRecDepth 10000 in
theorem zwd1851 : (Jvm.Cond.methodLink "RightTurnsLaw" (202 : Nat) ({ cls := "RightTurnsModel", name := "fewest", desc := "(II)I" } : Jvm.MethodName)) ∈ zGW := zw (zt8 (i := 171) rfl) rfl
set_option maxRecDepth 10000 in
theorem zwd1852 : (Jvm.Cond.instanceMethod ({ cls := "RightTurnsModel", name := "fewest", desc := "(II)I" } : Jvm.MethodName)) ∈ zGW := zw (zt8 (i := 172) rfl) rfl
set_option maxRecDepth 10000 in
theorem zwd1853 : (Jvm.Cond.selects "RightTurnsModel" ({ cls := "RightTurnsModel", name := "fewest", desc := "(II)I" } : Jvm.MethodName) ({ cls := "RightTurnsModel", name := "fewest", desc := "(II)I" } : Jvm.MethodName)) ∈ zGW := zw (zt8 (i := 173) rfl) rfl
set_option maxRecDepth 10000 in
theorem zwd1854 : (Jvm.Cond.code ({ cls := "RightTurnsModel", name := "fewest", desc := "(II)I" } : Jvm.MethodName) prog_14_method_81_code (3 : Nat) (Option.some Jvm.ClassFile.FieldType.int)) ∈ zGW := zw (zt8 (i := 174) rfl) rfl
set_option maxRecDepth 10000 in
theorem zwd1855 : (Jvm.Cond.methodLink "RightTurnsModel" (362 : Nat) ({ cls := "RightTurnsModel", name := "findSet", desc := "(IZ)V" } : Jvm.MethodName)) ∈ zGW := zw (zt8 (i := 175) rfl) rfl
set_option maxRecDepth 10000 in
theorem zwd1857 : (Jvm.Cond.instanceMethod ({ cls := "RightTurnsModel", name := "findSet", desc := "(IZ)V" } : Jvm.MethodName)) ∈ zGW := zw (zt8 (i := 177) rfl) rfl
set_option maxRecDepth 10000 in
theorem zwd1858 : (Jvm.Cond.code ({ cls := "RightTurnsModel", name := "findSet", desc := "(IZ)V" } : Jvm.MethodName) prog_14_method_80_code (6 : Nat) (Option.none : Option Jvm.ClassFile.FieldType)) ∈ zGW := zw (zt8 (i := 178) rfl) rfl
set_option maxRecDepth 10000 in
theorem zwd1859 : (Jvm.Cond.methodLink "RightTurnsModel" (352 : Nat) ({ cls := "RightTurnsModel", name := "costOf", desc := "(I)I" } : Jvm.MethodName)) ∈ zGW := zw (zt8 (i := 179) rfl) rfl
set_option maxRecDepth 10000 in
theorem zwd1861 : (Jvm.Cond.instanceMethod ({ cls := "RightTurnsModel", name := "costOf", desc := "(I)I" } : Jvm.MethodName)) ∈ zGW := zw (zt8 (i := 181) rfl) rfl
set_option maxRecDepth 10000 in
theorem zwd1862 : (Jvm.Cond.code ({ cls := "RightTurnsModel", name := "costOf", desc := "(I)I" } : Jvm.MethodName) prog_14_method_79_code (2 : Nat) (Option.some Jvm.ClassFile.FieldType.int)) ∈ zGW := zw (zt8 (i := 182) rfl) rfl
set_option maxRecDepth 10000 in
theorem zwd1863 : (Jvm.Cond.methodLink "RightTurnsModel" (355 : Nat) ({ cls := "RightTurnsModel", name := "flips", desc := "(I)V" } : Jvm.MethodName)) ∈ zGW := zw (zt8 (i := 183) rfl) rfl
set_option maxRecDepth 10000 in
theorem zwd1865 : (Jvm.Cond.instanceMethod ({ cls := "RightTurnsModel", name := "flips", desc := "(I)V" } : Jvm.MethodName)) ∈ zGW := zw (zt8 (i := 185) rfl) rfl
set_option maxRecDepth 10000 in
theorem zwd1866 : (Jvm.Cond.code ({ cls := "RightTurnsModel", name := "flips", desc := "(I)V" } : Jvm.MethodName) prog_14_method_78_code (2 : Nat) (Option.none : Option Jvm.ClassFile.FieldType)) ∈ zGW := zw (zt8 (i := 186) rfl) rfl
set_option maxRecDepth 10000 in
theorem zwd1867 : (Jvm.Cond.methodLink "RightTurnsModel" (358 : Nat) ({ cls := "RightTurnsModel", name := "isOpen", desc := "()Z" } : Jvm.MethodName)) ∈ zGW := zw (zt8 (i := 187) rfl) rfl
set_option maxRecDepth 10000 in
theorem zwd1869 : (Jvm.Cond.instanceMethod ({ cls := "RightTurnsModel", name := "isOpen", desc := "()Z" } : Jvm.MethodName)) ∈ zGW := zw (zt8 (i := 189) rfl) rfl
set_option maxRecDepth 10000 in
theorem zwd1870 : (Jvm.Cond.code ({ cls := "RightTurnsModel", name := "isOpen", desc := "()Z" } : Jvm.MethodName) prog_14_method_70_code (1 : Nat) (Option.some Jvm.ClassFile.FieldType.boolean)) ∈ zGW := zw (zt8 (i := 190) rfl) rfl
set_option maxRecDepth 10000 in
theorem zwd1871 : (Jvm.Cond.methodLink "RightTurnsLaw" (205 : Nat) ({ cls := "RightTurnsModel", name := "cheapest", desc := "(II)I" } : Jvm.MethodName)) ∈ zGW := zw (zt8 (i := 191) rfl) rfl
set_option maxRecDepth 10000 in
theorem zwd1872 : (Jvm.Cond.instanceMethod ({ cls := "RightTurnsModel", name := "cheapest", desc := "(II)I" } : Jvm.MethodName)) ∈ zGW := zw (zt8 (i := 192) rfl) rfl
set_option maxRecDepth 10000 in
theorem zwd1873 : (Jvm.Cond.selects "RightTurnsModel" ({ cls := "RightTurnsModel", name := "cheapest", desc := "(II)I" } : Jvm.MethodName) ({ cls := "RightTurnsModel", name := "cheapest", desc := "(II)I" } : Jvm.MethodName)) ∈ zGW := zw (zt8 (i := 193) rfl) rfl
set_option maxRecDepth 10000 in
theorem zwd1874 : (Jvm.Cond.code ({ cls := "RightTurnsModel", name := "cheapest", desc := "(II)I" } : Jvm.MethodName) prog_14_method_82_code (3 : Nat) (Option.some Jvm.ClassFile.FieldType.int)) ∈ zGW := zw (zt8 (i := 194) rfl) rfl
set_option maxRecDepth 10000 in
theorem zwd1875 : (Jvm.Cond.methodLink "RightTurnsLaw" (208 : Nat) ({ cls := "RightTurnsModel", name := "exchange", desc := "(II)I" } : Jvm.MethodName)) ∈ zGW := zw (zt8 (i := 195) rfl) rfl
set_option maxRecDepth 10000 in
theorem zwd1876 : (Jvm.Cond.instanceMethod ({ cls := "RightTurnsModel", name := "exchange", desc := "(II)I" } : Jvm.MethodName)) ∈ zGW := zw (zt8 (i := 196) rfl) rfl
set_option maxRecDepth 10000 in
theorem zwd1877 : (Jvm.Cond.selects "RightTurnsModel" ({ cls := "RightTurnsModel", name := "exchange", desc := "(II)I" } : Jvm.MethodName) ({ cls := "RightTurnsModel", name := "exchange", desc := "(II)I" } : Jvm.MethodName)) ∈ zGW := zw (zt8 (i := 197) rfl) rfl
set_option maxRecDepth 10000 in
theorem zwd1878 : (Jvm.Cond.code ({ cls := "RightTurnsModel", name := "exchange", desc := "(II)I" } : Jvm.MethodName) prog_14_method_83_code (8 : Nat) (Option.some Jvm.ClassFile.FieldType.int)) ∈ zGW := zw (zt8 (i := 198) rfl) rfl
set_option maxRecDepth 10000 in
theorem zwd1879 : (Jvm.Cond.methodLink "RightTurnsLaw" (211 : Nat) ({ cls := "RightTurnsModel", name := "round", desc := "(II)I" } : Jvm.MethodName)) ∈ zGW := zw (zt8 (i := 199) rfl) rfl
set_option maxRecDepth 10000 in
theorem zwd1880 : (Jvm.Cond.instanceMethod ({ cls := "RightTurnsModel", name := "round", desc := "(II)I" } : Jvm.MethodName)) ∈ zGW := zw (zt8 (i := 200) rfl) rfl
set_option maxRecDepth 10000 in
theorem zwd1881 : (Jvm.Cond.selects "RightTurnsModel" ({ cls := "RightTurnsModel", name := "round", desc := "(II)I" } : Jvm.MethodName) ({ cls := "RightTurnsModel", name := "round", desc := "(II)I" } : Jvm.MethodName)) ∈ zGW := zw (zt8 (i := 201) rfl) rfl
set_option maxRecDepth 10000 in
theorem zwd1882 : (Jvm.Cond.code ({ cls := "RightTurnsModel", name := "round", desc := "(II)I" } : Jvm.MethodName) prog_14_method_85_code (9 : Nat) (Option.some Jvm.ClassFile.FieldType.int)) ∈ zGW := zw (zt8 (i := 202) rfl) rfl
set_option maxRecDepth 10000 in
theorem zwd1883 : (Jvm.Cond.methodLink "RightTurnsModel" (366 : Nat) ({ cls := "RightTurnsModel", name := "boxAt", desc := "(II)I" } : Jvm.MethodName)) ∈ zGW := zw (zt8 (i := 203) rfl) rfl
set_option maxRecDepth 10000 in
theorem zwd1885 : (Jvm.Cond.instanceMethod ({ cls := "RightTurnsModel", name := "boxAt", desc := "(II)I" } : Jvm.MethodName)) ∈ zGW := zw (zt8 (i := 205) rfl) rfl
set_option maxRecDepth 10000 in
theorem zwd1886 : (Jvm.Cond.code ({ cls := "RightTurnsModel", name := "boxAt", desc := "(II)I" } : Jvm.MethodName) prog_14_method_84_code (5 : Nat) (Option.some Jvm.ClassFile.FieldType.int)) ∈ zGW := zw (zt8 (i := 206) rfl) rfl
set_option maxRecDepth 10000 in
theorem zwd1887 : (Jvm.Cond.methodLink "RightTurnsModel" (369 : Nat) ({ cls := "RightTurnsModel", name := "spreads", desc := "(III)Z" } : Jvm.MethodName)) ∈ zGW := zw (zt8 (i := 207) rfl) rfl
set_option maxRecDepth 10000 in
theorem zwd1889 : (Jvm.Cond.instanceMethod ({ cls := "RightTurnsModel", name := "spreads", desc := "(III)Z" } : Jvm.MethodName)) ∈ zGW := zw (zt8 (i := 209) rfl) rfl
set_option maxRecDepth 10000 in
theorem zwd1890 : (Jvm.Cond.code ({ cls := "RightTurnsModel", name := "spreads", desc := "(III)Z" } : Jvm.MethodName) prog_14_method_86_code (8 : Nat) (Option.some Jvm.ClassFile.FieldType.boolean)) ∈ zGW := zw (zt8 (i := 210) rfl) rfl
set_option maxRecDepth 10000 in
theorem zwd1891 : (Jvm.Cond.methodLink "RightTurnsLaw" (214 : Nat) ({ cls := "RightTurnsModel", name := "bound", desc := "(II)I" } : Jvm.MethodName)) ∈ zGW := zw (zt8 (i := 211) rfl) rfl
set_option maxRecDepth 10000 in
theorem zwd1892 : (Jvm.Cond.instanceMethod ({ cls := "RightTurnsModel", name := "bound", desc := "(II)I" } : Jvm.MethodName)) ∈ zGW := zw (zt8 (i := 212) rfl) rfl
set_option maxRecDepth 10000 in
theorem zwd1893 : (Jvm.Cond.selects "RightTurnsModel" ({ cls := "RightTurnsModel", name := "bound", desc := "(II)I" } : Jvm.MethodName) ({ cls := "RightTurnsModel", name := "bound", desc := "(II)I" } : Jvm.MethodName)) ∈ zGW := zw (zt8 (i := 213) rfl) rfl
set_option maxRecDepth 10000 in
theorem zwd1894 : (Jvm.Cond.code ({ cls := "RightTurnsModel", name := "bound", desc := "(II)I" } : Jvm.MethodName) prog_14_method_87_code (11 : Nat) (Option.some Jvm.ClassFile.FieldType.int)) ∈ zGW := zw (zt8 (i := 214) rfl) rfl
set_option maxRecDepth 10000 in
theorem zwd1895 : (Jvm.Cond.methodLink "RightTurnsLaw" (217 : Nat) ({ cls := "RightTurnsModel", name := "home", desc := "(I)I" } : Jvm.MethodName)) ∈ zGW := zw (zt8 (i := 215) rfl) rfl
set_option maxRecDepth 10000 in
theorem zwd1896 : (Jvm.Cond.instanceMethod ({ cls := "RightTurnsModel", name := "home", desc := "(I)I" } : Jvm.MethodName)) ∈ zGW := zw (zt8 (i := 216) rfl) rfl
set_option maxRecDepth 10000 in
theorem zwd1897 : (Jvm.Cond.selects "RightTurnsModel" ({ cls := "RightTurnsModel", name := "home", desc := "(I)I" } : Jvm.MethodName) ({ cls := "RightTurnsModel", name := "home", desc := "(I)I" } : Jvm.MethodName)) ∈ zGW := zw (zt8 (i := 217) rfl) rfl
set_option maxRecDepth 10000 in
theorem zwd1898 : (Jvm.Cond.code ({ cls := "RightTurnsModel", name := "home", desc := "(I)I" } : Jvm.MethodName) prog_14_method_93_code (2 : Nat) (Option.some Jvm.ClassFile.FieldType.int)) ∈ zGW := zw (zt8 (i := 218) rfl) rfl
set_option maxRecDepth 10000 in
theorem zwd1899 : (Jvm.Cond.methodLink "RightTurnsModel" (387 : Nat) ({ cls := "RightTurnsModel", name := "runs", desc := "()V" } : Jvm.MethodName)) ∈ zGW := zw (zt8 (i := 219) rfl) rfl
set_option maxRecDepth 10000 in
theorem zwd1901 : (Jvm.Cond.instanceMethod ({ cls := "RightTurnsModel", name := "runs", desc := "()V" } : Jvm.MethodName)) ∈ zGW := zw (zt8 (i := 221) rfl) rfl
set_option maxRecDepth 10000 in
theorem zwd1902 : (Jvm.Cond.code ({ cls := "RightTurnsModel", name := "runs", desc := "()V" } : Jvm.MethodName) prog_14_method_89_code (3 : Nat) (Option.none : Option Jvm.ClassFile.FieldType)) ∈ zGW := zw (zt8 (i := 222) rfl) rfl
set_option maxRecDepth 10000 in
theorem zwd1903 : (Jvm.Cond.methodLink "RightTurnsModel" (372 : Nat) ({ cls := "RightTurnsModel", name := "layRides", desc := "()V" } : Jvm.MethodName)) ∈ zGW := zw (zt8 (i := 223) rfl) rfl
set_option maxRecDepth 10000 in
theorem zwd1905 : (Jvm.Cond.instanceMethod ({ cls := "RightTurnsModel", name := "layRides", desc := "()V" } : Jvm.MethodName)) ∈ zGW := zw (zt8 (i := 225) rfl) rfl
set_option maxRecDepth 10000 in
theorem zwd1906 : (Jvm.Cond.code ({ cls := "RightTurnsModel", name := "layRides", desc := "()V" } : Jvm.MethodName) prog_14_method_88_code (3 : Nat) (Option.none : Option Jvm.ClassFile.FieldType)) ∈ zGW := zw (zt8 (i := 226) rfl) rfl
set_option maxRecDepth 10000 in
theorem zwd1907 : (Jvm.Cond.methodLink "RightTurnsModel" (378 : Nat) ({ cls := "RightTurnsModel", name := "moves", desc := "(I)V" } : Jvm.MethodName)) ∈ zGW := zw (zt8 (i := 227) rfl) rfl
set_option maxRecDepth 10000 in
theorem zwd1909 : (Jvm.Cond.instanceMethod ({ cls := "RightTurnsModel", name := "moves", desc := "(I)V" } : Jvm.MethodName)) ∈ zGW := zw (zt8 (i := 229) rfl) rfl
set_option maxRecDepth 10000 in
theorem zwd1910 : (Jvm.Cond.code ({ cls := "RightTurnsModel", name := "moves", desc := "(I)V" } : Jvm.MethodName) prog_14_method_90_code (2 : Nat) (Option.none : Option Jvm.ClassFile.FieldType)) ∈ zGW := zw (zt8 (i := 230) rfl) rfl
set_option maxRecDepth 10000 in
theorem zwd1911 : (Jvm.Cond.methodLink "RightTurnsModel" (381 : Nat) ({ cls := "RightTurnsModel", name := "passes", desc := "(I)I" } : Jvm.MethodName)) ∈ zGW := zw (zt8 (i := 231) rfl) rfl
set_option maxRecDepth 10000 in
theorem zwd1913 : (Jvm.Cond.instanceMethod ({ cls := "RightTurnsModel", name := "passes", desc := "(I)I" } : Jvm.MethodName)) ∈ zGW := zw (zt8 (i := 233) rfl) rfl
set_option maxRecDepth 10000 in
theorem zwd1914 : (Jvm.Cond.code ({ cls := "RightTurnsModel", name := "passes", desc := "(I)I" } : Jvm.MethodName) prog_14_method_92_code (4 : Nat) (Option.some Jvm.ClassFile.FieldType.int)) ∈ zGW := zw (zt8 (i := 234) rfl) rfl
set_option maxRecDepth 10000 in
theorem zwd1915 : (Jvm.Cond.methodLink "RightTurnsModel" (384 : Nat) ({ cls := "RightTurnsModel", name := "isThere", desc := "(II)Z" } : Jvm.MethodName)) ∈ zGW := zw (zt8 (i := 235) rfl) rfl
set_option maxRecDepth 10000 in
theorem zwd1917 : (Jvm.Cond.instanceMethod ({ cls := "RightTurnsModel", name := "isThere", desc := "(II)Z" } : Jvm.MethodName)) ∈ zGW := zw (zt8 (i := 237) rfl) rfl
set_option maxRecDepth 10000 in
theorem zwd1918 : (Jvm.Cond.code ({ cls := "RightTurnsModel", name := "isThere", desc := "(II)Z" } : Jvm.MethodName) prog_14_method_91_code (3 : Nat) (Option.some Jvm.ClassFile.FieldType.boolean)) ∈ zGW := zw (zt8 (i := 238) rfl) rfl
set_option maxRecDepth 10000 in
theorem zwd1919 : (Jvm.Cond.methodLink "RightTurnsLaw" (220 : Nat) ({ cls := "RightTurnsModel", name := "traffic", desc := "(I)I" } : Jvm.MethodName)) ∈ zGW := zw (zt8 (i := 239) rfl) rfl
set_option maxRecDepth 10000 in
theorem zwd1920 : (Jvm.Cond.instanceMethod ({ cls := "RightTurnsModel", name := "traffic", desc := "(I)I" } : Jvm.MethodName)) ∈ zGW := zw (zt9 (i := 0) rfl) rfl
set_option maxRecDepth 10000 in
theorem zwd1921 : (Jvm.Cond.selects "RightTurnsModel" ({ cls := "RightTurnsModel", name := "traffic", desc := "(I)I" } : Jvm.MethodName) ({ cls := "RightTurnsModel", name := "traffic", desc := "(I)I" } : Jvm.MethodName)) ∈ zGW := zw (zt9 (i := 1) rfl) rfl
set_option maxRecDepth 10000 in
theorem zwd1922 : (Jvm.Cond.code ({ cls := "RightTurnsModel", name := "traffic", desc := "(I)I" } : Jvm.MethodName) prog_14_method_94_code (6 : Nat) (Option.some Jvm.ClassFile.FieldType.int)) ∈ zGW := zw (zt9 (i := 2) rfl) rfl
set_option maxRecDepth 10000 in
theorem zwd1923 : (Jvm.Cond.methodLink "RightTurnsLaw" (223 : Nat) ({ cls := "RightTurnsModel", name := "counts", desc := "(I)I" } : Jvm.MethodName)) ∈ zGW := zw (zt9 (i := 3) rfl) rfl
set_option maxRecDepth 10000 in
theorem zwd1924 : (Jvm.Cond.instanceMethod ({ cls := "RightTurnsModel", name := "counts", desc := "(I)I" } : Jvm.MethodName)) ∈ zGW := zw (zt9 (i := 4) rfl) rfl
set_option maxRecDepth 10000 in
theorem zwd1925 : (Jvm.Cond.selects "RightTurnsModel" ({ cls := "RightTurnsModel", name := "counts", desc := "(I)I" } : Jvm.MethodName) ({ cls := "RightTurnsModel", name := "counts", desc := "(I)I" } : Jvm.MethodName)) ∈ zGW := zw (zt9 (i := 5) rfl) rfl
set_option maxRecDepth 10000 in
theorem zwd1926 : (Jvm.Cond.code ({ cls := "RightTurnsModel", name := "counts", desc := "(I)I" } : Jvm.MethodName) prog_14_method_95_code (6 : Nat) (Option.some Jvm.ClassFile.FieldType.int)) ∈ zGW := zw (zt9 (i := 6) rfl) rfl
set_option maxRecDepth 10000 in
theorem zwd1927 : (Jvm.Cond.methodLink "RightTurnsLaw" (226 : Nat) ({ cls := "RightTurnsModel", name := "tell", desc := "(I)I" } : Jvm.MethodName)) ∈ zGW := zw (zt9 (i := 7) rfl) rfl
set_option maxRecDepth 10000 in
theorem zwd1928 : (Jvm.Cond.instanceMethod ({ cls := "RightTurnsModel", name := "tell", desc := "(I)I" } : Jvm.MethodName)) ∈ zGW := zw (zt9 (i := 8) rfl) rfl
set_option maxRecDepth 10000 in
theorem zwd1929 : (Jvm.Cond.selects "RightTurnsModel" ({ cls := "RightTurnsModel", name := "tell", desc := "(I)I" } : Jvm.MethodName) ({ cls := "RightTurnsModel", name := "tell", desc := "(I)I" } : Jvm.MethodName)) ∈ zGW := zw (zt9 (i := 9) rfl) rfl
set_option maxRecDepth 10000 in
theorem zwd1930 : (Jvm.Cond.code ({ cls := "RightTurnsModel", name := "tell", desc := "(I)I" } : Jvm.MethodName) prog_14_method_96_code (2 : Nat) (Option.some Jvm.ClassFile.FieldType.int)) ∈ zGW := zw (zt9 (i := 10) rfl) rfl
set_option maxRecDepth 10000 in
theorem zwd1931 : (Jvm.Cond.methodLink "RightTurnsLaw" (230 : Nat) ({ cls := "RightTurnsModel", name := "forget", desc := "()I" } : Jvm.MethodName)) ∈ zGW := zw (zt9 (i := 11) rfl) rfl
set_option maxRecDepth 10000 in
theorem zwd1932 : (Jvm.Cond.instanceMethod ({ cls := "RightTurnsModel", name := "forget", desc := "()I" } : Jvm.MethodName)) ∈ zGW := zw (zt9 (i := 12) rfl) rfl
set_option maxRecDepth 10000 in
theorem zwd1933 : (Jvm.Cond.selects "RightTurnsModel" ({ cls := "RightTurnsModel", name := "forget", desc := "()I" } : Jvm.MethodName) ({ cls := "RightTurnsModel", name := "forget", desc := "()I" } : Jvm.MethodName)) ∈ zGW := zw (zt9 (i := 13) rfl) rfl
set_option maxRecDepth 10000 in
theorem zwd1934 : (Jvm.Cond.code ({ cls := "RightTurnsModel", name := "forget", desc := "()I" } : Jvm.MethodName) prog_14_method_97_code (2 : Nat) (Option.some Jvm.ClassFile.FieldType.int)) ∈ zGW := zw (zt9 (i := 14) rfl) rfl
set_option maxRecDepth 10000 in
theorem zwd1935 : (Jvm.Cond.methodLink "RightTurnsLaw" (233 : Nat) ({ cls := "RightTurnsModel", name := "breaks", desc := "(II)J" } : Jvm.MethodName)) ∈ zGW := zw (zt9 (i := 15) rfl) rfl
set_option maxRecDepth 10000 in
theorem zwd1936 : (Jvm.Cond.instanceMethod ({ cls := "RightTurnsModel", name := "breaks", desc := "(II)J" } : Jvm.MethodName)) ∈ zGW := zw (zt9 (i := 16) rfl) rfl
set_option maxRecDepth 10000 in
theorem zwd1937 : (Jvm.Cond.selects "RightTurnsModel" ({ cls := "RightTurnsModel", name := "breaks", desc := "(II)J" } : Jvm.MethodName) ({ cls := "RightTurnsModel", name := "breaks", desc := "(II)J" } : Jvm.MethodName)) ∈ zGW := zw (zt9 (i := 17) rfl) rfl
set_option maxRecDepth 10000 in
theorem zwd1938 : (Jvm.Cond.code ({ cls := "RightTurnsModel", name := "breaks", desc := "(II)J" } : Jvm.MethodName) prog_14_method_98_code (3 : Nat) (Option.some Jvm.ClassFile.FieldType.long)) ∈ zGW := zw (zt9 (i := 18) rfl) rfl
set_option maxRecDepth 10000 in
theorem zwd1939 : (Jvm.Cond.methodLink "RightTurnsModel" (390 : Nat) ({ cls := "RightTurnsModel", name := "findBreaks", desc := "()V" } : Jvm.MethodName)) ∈ zGW := zw (zt9 (i := 19) rfl) rfl
set_option maxRecDepth 10000 in
theorem zwd1941 : (Jvm.Cond.instanceMethod ({ cls := "RightTurnsModel", name := "findBreaks", desc := "()V" } : Jvm.MethodName)) ∈ zGW := zw (zt9 (i := 21) rfl) rfl
set_option maxRecDepth 10000 in
theorem zwd1942 : (Jvm.Cond.code ({ cls := "RightTurnsModel", name := "findBreaks", desc := "()V" } : Jvm.MethodName) prog_14_method_99_code (3 : Nat) (Option.none : Option Jvm.ClassFile.FieldType)) ∈ zGW := zw (zt9 (i := 22) rfl) rfl
set_option maxRecDepth 10000 in
theorem zwd1943 : (Jvm.Cond.methodLink "RightTurnsModel" (402 : Nat) ({ cls := "RightTurnsModel", name := "comes", desc := "(II)V" } : Jvm.MethodName)) ∈ zGW := zw (zt9 (i := 23) rfl) rfl
set_option maxRecDepth 10000 in
theorem zwd1945 : (Jvm.Cond.instanceMethod ({ cls := "RightTurnsModel", name := "comes", desc := "(II)V" } : Jvm.MethodName)) ∈ zGW := zw (zt9 (i := 25) rfl) rfl
set_option maxRecDepth 10000 in
theorem zwd1946 : (Jvm.Cond.code ({ cls := "RightTurnsModel", name := "comes", desc := "(II)V" } : Jvm.MethodName) prog_14_method_101_code (6 : Nat) (Option.none : Option Jvm.ClassFile.FieldType)) ∈ zGW := zw (zt9 (i := 26) rfl) rfl
set_option maxRecDepth 10000 in
theorem zwd1947 : (Jvm.Cond.constantLong "RightTurnsModel" (396 : Nat) (-1 : Int64)) ∈ zGW := zw (zt9 (i := 27) rfl) rfl
set_option maxRecDepth 10000 in
theorem zwd1948 : (Jvm.Cond.methodLink "RightTurnsLaw" (239 : Nat) ({ cls := "RightTurnsModel", name := "sure", desc := "(II)I" } : Jvm.MethodName)) ∈ zGW := zw (zt9 (i := 28) rfl) rfl
set_option maxRecDepth 10000 in
theorem zwd1949 : (Jvm.Cond.instanceMethod ({ cls := "RightTurnsModel", name := "sure", desc := "(II)I" } : Jvm.MethodName)) ∈ zGW := zw (zt9 (i := 29) rfl) rfl
set_option maxRecDepth 10000 in
theorem zwd1950 : (Jvm.Cond.selects "RightTurnsModel" ({ cls := "RightTurnsModel", name := "sure", desc := "(II)I" } : Jvm.MethodName) ({ cls := "RightTurnsModel", name := "sure", desc := "(II)I" } : Jvm.MethodName)) ∈ zGW := zw (zt9 (i := 30) rfl) rfl
set_option maxRecDepth 10000 in
theorem zwd1951 : (Jvm.Cond.code ({ cls := "RightTurnsModel", name := "sure", desc := "(II)I" } : Jvm.MethodName) prog_14_method_100_code (7 : Nat) (Option.some Jvm.ClassFile.FieldType.int)) ∈ zGW := zw (zt9 (i := 31) rfl) rfl
set_option maxRecDepth 10000 in
theorem zwd1952 : (Jvm.Cond.methodLink "RightTurnsLaw" (236 : Nat) ({ cls := "RightTurnsModel", name := "cut", desc := "(I)I" } : Jvm.MethodName)) ∈ zGW := zw (zt9 (i := 32) rfl) rfl
set_option maxRecDepth 10000 in
theorem zwd1953 : (Jvm.Cond.instanceMethod ({ cls := "RightTurnsModel", name := "cut", desc := "(I)I" } : Jvm.MethodName)) ∈ zGW := zw (zt9 (i := 33) rfl) rfl
set_option maxRecDepth 10000 in
theorem zwd1954 : (Jvm.Cond.selects "RightTurnsModel" ({ cls := "RightTurnsModel", name := "cut", desc := "(I)I" } : Jvm.MethodName) ({ cls := "RightTurnsModel", name := "cut", desc := "(I)I" } : Jvm.MethodName)) ∈ zGW := zw (zt9 (i := 34) rfl) rfl
set_option maxRecDepth 10000 in
theorem zwd1955 : (Jvm.Cond.code ({ cls := "RightTurnsModel", name := "cut", desc := "(I)I" } : Jvm.MethodName) prog_14_method_102_code (7 : Nat) (Option.some Jvm.ClassFile.FieldType.int)) ∈ zGW := zw (zt9 (i := 35) rfl) rfl
set_option maxRecDepth 10000 in
theorem zwd1956 : (Jvm.Cond.methodLink "RightTurnsLaw" (242 : Nat) ({ cls := "RightTurnsModel", name := "detour", desc := "(III)I" } : Jvm.MethodName)) ∈ zGW := zw (zt9 (i := 36) rfl) rfl
set_option maxRecDepth 10000 in
theorem zwd1957 : (Jvm.Cond.instanceMethod ({ cls := "RightTurnsModel", name := "detour", desc := "(III)I" } : Jvm.MethodName)) ∈ zGW := zw (zt9 (i := 37) rfl) rfl
set_option maxRecDepth 10000 in
theorem zwd1958 : (Jvm.Cond.selects "RightTurnsModel" ({ cls := "RightTurnsModel", name := "detour", desc := "(III)I" } : Jvm.MethodName) ({ cls := "RightTurnsModel", name := "detour", desc := "(III)I" } : Jvm.MethodName)) ∈ zGW := zw (zt9 (i := 38) rfl) rfl
set_option maxRecDepth 10000 in
theorem zwd1959 : (Jvm.Cond.code ({ cls := "RightTurnsModel", name := "detour", desc := "(III)I" } : Jvm.MethodName) prog_14_method_103_code (7 : Nat) (Option.some Jvm.ClassFile.FieldType.int)) ∈ zGW := zw (zt9 (i := 39) rfl) rfl
set_option maxRecDepth 10000 in
theorem zwd1960 : (Jvm.Cond.methodLink "RightTurnsLaw" (245 : Nat) ({ cls := "RightTurnsModel", name := "gain", desc := "(II)I" } : Jvm.MethodName)) ∈ zGW := zw (zt9 (i := 40) rfl) rfl
set_option maxRecDepth 10000 in
theorem zwd1961 : (Jvm.Cond.instanceMethod ({ cls := "RightTurnsModel", name := "gain", desc := "(II)I" } : Jvm.MethodName)) ∈ zGW := zw (zt9 (i := 41) rfl) rfl
set_option maxRecDepth 10000 in
theorem zwd1962 : (Jvm.Cond.selects "RightTurnsModel" ({ cls := "RightTurnsModel", name := "gain", desc := "(II)I" } : Jvm.MethodName) ({ cls := "RightTurnsModel", name := "gain", desc := "(II)I" } : Jvm.MethodName)) ∈ zGW := zw (zt9 (i := 42) rfl) rfl
set_option maxRecDepth 10000 in
theorem zwd1963 : (Jvm.Cond.code ({ cls := "RightTurnsModel", name := "gain", desc := "(II)I" } : Jvm.MethodName) prog_14_method_105_code (7 : Nat) (Option.some Jvm.ClassFile.FieldType.int)) ∈ zGW := zw (zt9 (i := 43) rfl) rfl
set_option maxRecDepth 10000 in
theorem zwd1964 : (Jvm.Cond.methodLink "RightTurnsModel" (414 : Nat) ({ cls := "RightTurnsModel", name := "sums", desc := "()V" } : Jvm.MethodName)) ∈ zGW := zw (zt9 (i := 44) rfl) rfl
set_option maxRecDepth 10000 in
theorem zwd1966 : (Jvm.Cond.instanceMethod ({ cls := "RightTurnsModel", name := "sums", desc := "()V" } : Jvm.MethodName)) ∈ zGW := zw (zt9 (i := 46) rfl) rfl
set_option maxRecDepth 10000 in
theorem zwd1967 : (Jvm.Cond.code ({ cls := "RightTurnsModel", name := "sums", desc := "()V" } : Jvm.MethodName) prog_14_method_104_code (3 : Nat) (Option.none : Option Jvm.ClassFile.FieldType)) ∈ zGW := zw (zt9 (i := 47) rfl) rfl
set_option maxRecDepth 10000 in
theorem zwd1968 : (Jvm.Cond.methodLink "RightTurnsLaw" (248 : Nat) ({ cls := "RightTurnsModel", name := "baker", desc := "(II)I" } : Jvm.MethodName)) ∈ zGW := zw (zt9 (i := 48) rfl) rfl
set_option maxRecDepth 10000 in
theorem zwd1969 : (Jvm.Cond.instanceMethod ({ cls := "RightTurnsModel", name := "baker", desc := "(II)I" } : Jvm.MethodName)) ∈ zGW := zw (zt9 (i := 49) rfl) rfl
set_option maxRecDepth 10000 in
theorem zwd1970 : (Jvm.Cond.selects "RightTurnsModel" ({ cls := "RightTurnsModel", name := "baker", desc := "(II)I" } : Jvm.MethodName) ({ cls := "RightTurnsModel", name := "baker", desc := "(II)I" } : Jvm.MethodName)) ∈ zGW := zw (zt9 (i := 50) rfl) rfl
set_option maxRecDepth 10000 in
theorem zwd1971 : (Jvm.Cond.code ({ cls := "RightTurnsModel", name := "baker", desc := "(II)I" } : Jvm.MethodName) prog_14_method_106_code (9 : Nat) (Option.some Jvm.ClassFile.FieldType.int)) ∈ zGW := zw (zt9 (i := 51) rfl) rfl
set_option maxRecDepth 10000 in
theorem zwd1972 : (Jvm.Cond.methodLink "RightTurnsLaw" (252 : Nat) ({ cls := "RightTurnsModel", name := "image", desc := "()I" } : Jvm.MethodName)) ∈ zGW := zw (zt9 (i := 52) rfl) rfl
set_option maxRecDepth 10000 in
theorem zwd1973 : (Jvm.Cond.instanceMethod ({ cls := "RightTurnsModel", name := "image", desc := "()I" } : Jvm.MethodName)) ∈ zGW := zw (zt9 (i := 53) rfl) rfl
set_option maxRecDepth 10000 in
theorem zwd1974 : (Jvm.Cond.selects "RightTurnsModel" ({ cls := "RightTurnsModel", name := "image", desc := "()I" } : Jvm.MethodName) ({ cls := "RightTurnsModel", name := "image", desc := "()I" } : Jvm.MethodName)) ∈ zGW := zw (zt9 (i := 54) rfl) rfl
set_option maxRecDepth 10000 in
theorem zwd1975 : (Jvm.Cond.code ({ cls := "RightTurnsModel", name := "image", desc := "()I" } : Jvm.MethodName) prog_14_method_109_code (1 : Nat) (Option.some Jvm.ClassFile.FieldType.int)) ∈ zGW := zw (zt9 (i := 55) rfl) rfl
set_option maxRecDepth 10000 in
theorem zwd1976 : (Jvm.Cond.methodLink "RightTurnsModel" (424 : Nat) ({ cls := "RightTurnsModel", name := "movesAll", desc := "([IZ)V" } : Jvm.MethodName)) ∈ zGW := zw (zt9 (i := 56) rfl) rfl
set_option maxRecDepth 10000 in
theorem zwd1978 : (Jvm.Cond.instanceMethod ({ cls := "RightTurnsModel", name := "movesAll", desc := "([IZ)V" } : Jvm.MethodName)) ∈ zGW := zw (zt9 (i := 58) rfl) rfl
set_option maxRecDepth 10000 in
theorem zwd1979 : (Jvm.Cond.code ({ cls := "RightTurnsModel", name := "movesAll", desc := "([IZ)V" } : Jvm.MethodName) prog_14_method_108_code (5 : Nat) (Option.none : Option Jvm.ClassFile.FieldType)) ∈ zGW := zw (zt9 (i := 59) rfl) rfl
set_option maxRecDepth 10000 in
theorem zwd1980 : (Jvm.Cond.methodLink "RightTurnsModel" (420 : Nat) ({ cls := "RightTurnsModel", name := "puts", desc := "([IIZ)I" } : Jvm.MethodName)) ∈ zGW := zw (zt9 (i := 60) rfl) rfl
set_option maxRecDepth 10000 in
theorem zwd1982 : (Jvm.Cond.instanceMethod ({ cls := "RightTurnsModel", name := "puts", desc := "([IIZ)I" } : Jvm.MethodName)) ∈ zGW := zw (zt9 (i := 62) rfl) rfl
set_option maxRecDepth 10000 in
theorem zwd1983 : (Jvm.Cond.code ({ cls := "RightTurnsModel", name := "puts", desc := "([IIZ)I" } : Jvm.MethodName) prog_14_method_107_code (4 : Nat) (Option.some Jvm.ClassFile.FieldType.int)) ∈ zGW := zw (zt9 (i := 63) rfl) rfl
set_option maxRecDepth 10000 in
theorem zwd1984 : (Jvm.Cond.methodLink "RightTurnsLaw" (256 : Nat) ({ cls := "RightTurnsModel", name := "restore", desc := "()I" } : Jvm.MethodName)) ∈ zGW := zw (zt9 (i := 64) rfl) rfl
set_option maxRecDepth 10000 in
theorem zwd1985 : (Jvm.Cond.instanceMethod ({ cls := "RightTurnsModel", name := "restore", desc := "()I" } : Jvm.MethodName)) ∈ zGW := zw (zt9 (i := 65) rfl) rfl
set_option maxRecDepth 10000 in
theorem zwd1986 : (Jvm.Cond.selects "RightTurnsModel" ({ cls := "RightTurnsModel", name := "restore", desc := "()I" } : Jvm.MethodName) ({ cls := "RightTurnsModel", name := "restore", desc := "()I" } : Jvm.MethodName)) ∈ zGW := zw (zt9 (i := 66) rfl) rfl
set_option maxRecDepth 10000 in
theorem zwd1987 : (Jvm.Cond.code ({ cls := "RightTurnsModel", name := "restore", desc := "()I" } : Jvm.MethodName) prog_14_method_110_code (1 : Nat) (Option.some Jvm.ClassFile.FieldType.int)) ∈ zGW := zw (zt9 (i := 67) rfl) rfl
set_option maxRecDepth 10000 in
theorem zwd1988 : (Jvm.Cond.methodLink "RightTurnsLaw" (260 : Nat) ({ cls := "RightTurnsModel", name := "count", desc := "(I)I" } : Jvm.MethodName)) ∈ zGW := zw (zt9 (i := 68) rfl) rfl
set_option maxRecDepth 10000 in
theorem zwd1989 : (Jvm.Cond.instanceMethod ({ cls := "RightTurnsModel", name := "count", desc := "(I)I" } : Jvm.MethodName)) ∈ zGW := zw (zt9 (i := 69) rfl) rfl
set_option maxRecDepth 10000 in
theorem zwd1990 : (Jvm.Cond.selects "RightTurnsModel" ({ cls := "RightTurnsModel", name := "count", desc := "(I)I" } : Jvm.MethodName) ({ cls := "RightTurnsModel", name := "count", desc := "(I)I" } : Jvm.MethodName)) ∈ zGW := zw (zt9 (i := 70) rfl) rfl
set_option maxRecDepth 10000 in
theorem zwd1991 : (Jvm.Cond.code ({ cls := "RightTurnsModel", name := "count", desc := "(I)I" } : Jvm.MethodName) prog_14_method_111_code (2 : Nat) (Option.some Jvm.ClassFile.FieldType.int)) ∈ zGW := zw (zt9 (i := 71) rfl) rfl
