/-! loads from the first places -/
section ZF
variable {P : Nat → zM} {C : Nat → List Value → zH → zQ → Prop} {k : Nat} {J : Nat → zK} {Q : zQ} {K : zK} {pc len a b : Nat} {d : Int} {L : zL} {S : List Value} {h : zH} {kc ks : Nat}
theorem zx_il0 : zstp P C k J Q (pc, .iload_n 0, len, a, b, d) K L S h kc ks = (zgi L 0 fun x => K L (.int x :: S) h kc ks) := rfl
theorem zx_ll0 : zstp P C k J Q (pc, .lload_n 0, len, a, b, d) K L S h kc ks = (zgl L 0 fun x => K L (.long x :: S) h kc ks) := rfl
theorem zx_al0 : zstp P C k J Q (pc, .aload_n 0, len, a, b, d) K L S h kc ks = (zgr L 0 fun x => K L (.ref x :: S) h kc ks) := rfl
theorem zx_il1 : zstp P C k J Q (pc, .iload_n 1, len, a, b, d) K L S h kc ks = (zgi L 1 fun x => K L (.int x :: S) h kc ks) := rfl
theorem zx_ll1 : zstp P C k J Q (pc, .lload_n 1, len, a, b, d) K L S h kc ks = (zgl L 1 fun x => K L (.long x :: S) h kc ks) := rfl
theorem zx_al1 : zstp P C k J Q (pc, .aload_n 1, len, a, b, d) K L S h kc ks = (zgr L 1 fun x => K L (.ref x :: S) h kc ks) := rfl
theorem zx_il2 : zstp P C k J Q (pc, .iload_n 2, len, a, b, d) K L S h kc ks = (zgi L 2 fun x => K L (.int x :: S) h kc ks) := rfl
theorem zx_ll2 : zstp P C k J Q (pc, .lload_n 2, len, a, b, d) K L S h kc ks = (zgl L 2 fun x => K L (.long x :: S) h kc ks) := rfl
theorem zx_al2 : zstp P C k J Q (pc, .aload_n 2, len, a, b, d) K L S h kc ks = (zgr L 2 fun x => K L (.ref x :: S) h kc ks) := rfl
theorem zx_il3 : zstp P C k J Q (pc, .iload_n 3, len, a, b, d) K L S h kc ks = (zgi L 3 fun x => K L (.int x :: S) h kc ks) := rfl
theorem zx_ll3 : zstp P C k J Q (pc, .lload_n 3, len, a, b, d) K L S h kc ks = (zgl L 3 fun x => K L (.long x :: S) h kc ks) := rfl
theorem zx_al3 : zstp P C k J Q (pc, .aload_n 3, len, a, b, d) K L S h kc ks = (zgr L 3 fun x => K L (.ref x :: S) h kc ks) := rfl
end ZF
