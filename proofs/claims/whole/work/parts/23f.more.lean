/-! more equations: copies, throws, switches, texts -/
section ZY
variable {P : Nat → zM} {C : Nat → List Value → zH → zQ → Prop} {k : Nat} {J : Nat → zK} {Q : zQ} {K : zK} {pc len a b : Nat} {d : Int} {L : zL} {S : List Value} {h : zH} {kc ks : Nat}
theorem zx_cpI {j q q0 : Nat} {n dp sp : Int32} : zstp P C k J Q (pc, .invokestatic j, len, 0, b, 2) K L (.int n :: .int dp :: .ref q :: .int sp :: .ref q0 :: S) h kc ks = (¬ sp < 0 ∧ ¬ dp < 0 ∧ ¬ n < 0 ∧ 16 ≤ q ∧ 16 ≤ q0 ∧ zwt S ≤ 8 ∧ zaI (h.1 q0) fun n0 f => zaI (h.1 q) fun n1 g => sp.toNatClampNeg + n.toNatClampNeg ≤ n0 ∧ dp.toNatClampNeg + n.toNatClampNeg ≤ n1 ∧ K L S (zup h q (.inl (0, n1, .inl (va_cpy f g sp.toNatClampNeg dp.toNatClampNeg n.toNatClampNeg)))) kc ks) := rfl
theorem zx_cpL {j q q0 : Nat} {n dp sp : Int32} : zstp P C k J Q (pc, .invokestatic j, len, 1, b, 2) K L (.int n :: .int dp :: .ref q :: .int sp :: .ref q0 :: S) h kc ks = (¬ sp < 0 ∧ ¬ dp < 0 ∧ ¬ n < 0 ∧ 16 ≤ q ∧ 16 ≤ q0 ∧ zwt S ≤ 8 ∧ zaL (h.1 q0) fun n0 f => zaL (h.1 q) fun n1 g => sp.toNatClampNeg + n.toNatClampNeg ≤ n0 ∧ dp.toNatClampNeg + n.toNatClampNeg ≤ n1 ∧ K L S (zup h q (.inl (1, n1, .inr (.inl (va_cpy f g sp.toNatClampNeg dp.toNatClampNeg n.toNatClampNeg))))) kc ks) := rfl
theorem zx_slen {j q : Nat} : zstp P C k J Q (pc, .invokevirtual j, len, a, b, 5) K L (.ref q :: S) h kc ks = (((1 ≤ q ∧ q ≤ 7) ∧ kc ≤ zmc (P k) ∧ ks ≤ zms (P k)) ∧ zwt S ≤ 8 ∧ K L (.int (nI (zsl q)) :: S) h kc ks) := rfl
theorem zx_schr {j q : Nat} {i : Int32} : zstp P C k J Q (pc, .invokevirtual j, len, a, b, 6) K L (.int i :: .ref q :: S) h kc ks = (((1 ≤ q ∧ q ≤ 7) ∧ kc ≤ zmc (P k) ∧ ks ≤ zms (P k)) ∧ zwt S ≤ 8 ∧ vp_in i (zsl q) ∧ K L (.int (zsc q i.toNatClampNeg) :: S) h kc ks) := rfl
theorem zx_tsw {dflt lo hi : Int} {offs : Array Int} {x : Int32} : zstp P C k J Q (pc, .tableswitch dflt lo hi offs, len, a, b, d) K L (.int x :: S) h kc ks = ((x.toInt < lo ∨ hi < x.toInt → J (ztg pc dflt) L S h kc ks) ∧ ∀ (j : Nat) (off : Int), offs.toList[j]? = some off → x.toInt = lo + j → J (ztg pc off) L S h kc ks) := rfl
theorem zx_spec3 {j q : Nat} : zstp P C k J Q (pc, .invokespecial j, len, a, b, 3) K L (.ref q :: S) h kc ks = (zwt S ≤ 8 ∧ K L S h kc ks) := rfl
end ZY
theorem cpI {s : zS} {q q0 sp dp n : Nat} {F : zH → Nat → Nat → Prop} {kc ks : Nat} (h0 : gD s q0 = 1) (h1 : gD s q = 1) : (zaI ((hOf s).1 q0) fun n0 f => zaI ((hOf s).1 q) fun n1 g => sp + n ≤ n0 ∧ dp + n ≤ n1 ∧ F (zup (hOf s) q (.inl (0, n1, .inl (va_cpy f g sp dp n)))) kc ks) = (sp + n ≤ gN s q0 ∧ dp + n ≤ gN s q ∧ F (hOf (sA s q (va_cpy (gA s q0) (gA s q) sp dp n))) kc ks) := by
  rw [zaI_c h0, zaI_c h1, up_A h1 rfl]
theorem cpL {s : zS} {q q0 sp dp n : Nat} {F : zH → Nat → Nat → Prop} {kc ks : Nat} (h0 : gD s q0 = 2) (h1 : gD s q = 2) : (zaL ((hOf s).1 q0) fun n0 f => zaL ((hOf s).1 q) fun n1 g => sp + n ≤ n0 ∧ dp + n ≤ n1 ∧ F (zup (hOf s) q (.inl (1, n1, .inr (.inl (va_cpy f g sp dp n))))) kc ks) = (sp + n ≤ gN s q0 ∧ dp + n ≤ gN s q ∧ F (hOf (sB s q (va_cpy (gB s q0) (gB s q) sp dp n))) kc ks) := by
  rw [zaL_c h0, zaL_c h1, up_B h1 rfl]
theorem ldI {s : zS} {q : Nat} {j : Int32} {F : zL → List Value → zH → Nat → Nat → Prop} {L : zL} {S : List Value} {h2 : zH} {kc ks : Nat} (h : gD s q = 1) : (zaI ((hOf s).1 q) fun n f => vp_in j n ∧ F L (.int (f j.toNatClampNeg) :: S) h2 kc ks) = (vp_in j (gN s q) ∧ F L (.int (gA s q j.toNatClampNeg) :: S) h2 kc ks) := by
  rw [zaI_c h]
theorem ldL {s : zS} {q : Nat} {j : Int32} {F : zL → List Value → zH → Nat → Nat → Prop} {L : zL} {S : List Value} {h2 : zH} {kc ks : Nat} (h : gD s q = 2) : (zaL ((hOf s).1 q) fun n f => vp_in j n ∧ F L (.long (f j.toNatClampNeg) :: S) h2 kc ks) = (vp_in j (gN s q) ∧ F L (.long (gB s q j.toNatClampNeg) :: S) h2 kc ks) := by
  rw [zaL_c h]
theorem fls_nX {s : zS} {a c : Nat} : fls (nX s) a c = fls s a c := rfl
theorem new_X {s : zS} : znew (hOf s) (.inr (0, [])) = hOf (nX s) := by
  refine zH_ext (fun a => ?_) rfl
  show (if a = gT s then _ else cel s a) = cel (nX s) a
  by_cases e : a = gT s
  · rw [if_pos e]
    unfold cel
    have : gD (nX s) a = 0 := by
      show (if a = gT s then 0 else gD s a) = 0
      rw [if_pos e]
    rw [this]
  · rw [if_neg e]
    unfold cel
    have : gD (nX s) a = gD s a := by
      show (if a = gT s then 0 else gD s a) = gD s a
      rw [if_neg e]
    rw [this]
    rfl
theorem new_A {s : zS} {n : Nat} : znew (hOf s) (.inl (0, n, .inl (fun _ => 0))) = hOf (nA s n) := by
  refine zH_ext (fun a => ?_) rfl
  show (if a = gT s then _ else cel s a) = cel (nA s n) a
  by_cases e : a = gT s
  · rw [if_pos e]
    have h1 : gD (nA s n) a = 1 := by
      show (if a = gT s then 1 else gD s a) = 1
      rw [if_pos e]
    have h2 : gN (nA s n) a = n := by
      show (if a = gT s then n else gN s a) = n
      rw [if_pos e]
    have h3 : gA (nA s n) a = fun _ => 0 := by
      show (if a = gT s then fun _ => 0 else gA s a) = _
      rw [if_pos e]
    rw [cel_I h1, h2, h3]
  · rw [if_neg e]
    have h1 : gD (nA s n) a = gD s a := by
      show (if a = gT s then 1 else gD s a) = _
      rw [if_neg e]
    have h2 : gN (nA s n) a = gN s a := by
      show (if a = gT s then n else gN s a) = _
      rw [if_neg e]
    have h3 : gA (nA s n) a = gA s a := by
      show (if a = gT s then fun _ => 0 else gA s a) = _
      rw [if_neg e]
    unfold cel
    rw [h1, h2, h3]
    rfl
theorem zx_new1 {P : Nat → zM} {C : Nat → List Value → zH → zQ → Prop} {k : Nat} {J : Nat → zK} {Q : zQ} {K : zK} {pc len a b : Nat} {d : Int} {L : zL} {S : List Value} {s : zS} {kc ks : Nat} {n : Int32} : zstp P C k J Q (pc, .newarray .int, len, a, b, d) K L (.int n :: S) (hOf s) kc ks = (¬ n < 0 ∧ n.toNatClampNeg ≤ 1000000 ∧ kc + 1 ≤ zmc (P k) ∧ ks + n.toNatClampNeg ≤ zms (P k) ∧ K L (.ref (gT s) :: S) (hOf (nA s n.toNatClampNeg)) (kc + 1) (ks + n.toNatClampNeg)) := by
  rw [← new_A]
  rfl
/-- a switch's cases one by one -/
theorem tsw_nil {F : Int → Prop} {lo z : Int} : (∀ (j : Nat) (off : Int), ([] : List Int)[j]? = some off → z = lo + j → F off) = True := by
  apply eq_true
  intro j off h
  rw [List.getElem?_nil] at h
  cases h
theorem tsw_cons {F : Int → Prop} {lo z o : Int} {r : List Int} : (∀ (j : Nat) (off : Int), (o :: r)[j]? = some off → z = lo + j → F off) = ((z = lo → F o) ∧ ∀ (j : Nat) (off : Int), r[j]? = some off → z = (lo + 1) + j → F off) := by
  apply propext
  constructor
  · intro h
    refine ⟨fun e => h 0 o rfl (by omega), fun j off h1 h2 => h (j + 1) off (by rw [List.getElem?_cons_succ]; exact h1) (by omega)⟩
  · intro h j off h1 h2
    cases j with
    | zero =>
      have h1 : some o = some off := h1
      cases h1
      exact h.1 (by omega)
    | succ j =>
      rw [List.getElem?_cons_succ] at h1
      exact h.2 j off h1 (by omega)
/-- the rest of the store -/
def sm (σ τ : zS) (a : Nat) : Prop := gD τ a = gD σ a ∧ gN τ a = gN σ a ∧ gI τ a = gI σ a ∧ gJ τ a = gJ σ a ∧ gR τ a = gR σ a ∧ gA τ a = gA σ a ∧ gB τ a = gB σ a
theorem sm_refl {σ : zS} {a : Nat} : sm σ σ a := ⟨rfl, rfl, rfl, rfl, rfl, rfl, rfl⟩
theorem sm_trans {σ τ ρ : zS} {a : Nat} (h : sm σ τ a) (g : sm τ ρ a) : sm σ ρ a := ⟨g.1.trans h.1, g.2.1.trans h.2.1, g.2.2.1.trans h.2.2.1, g.2.2.2.1.trans h.2.2.2.1, g.2.2.2.2.1.trans h.2.2.2.2.1, g.2.2.2.2.2.1.trans h.2.2.2.2.2.1, g.2.2.2.2.2.2.trans h.2.2.2.2.2.2⟩
theorem sm_sA {σ : zS} {q a : Nat} {f : Nat → Int32} (h : a ≠ q) : sm σ (sA σ q f) a := ⟨rfl, rfl, rfl, rfl, rfl, if_neg h, rfl⟩
theorem sm_sB {σ : zS} {q a : Nat} {f : Nat → Int64} (h : a ≠ q) : sm σ (sB σ q f) a := ⟨rfl, rfl, rfl, rfl, rfl, rfl, if_neg h⟩
theorem sm_sI {σ : zS} {q k a : Nat} {x : Int32} (h : a ≠ q) : sm σ (sI σ q k x) a := ⟨rfl, rfl, funext (fun _ => if_neg (fun z => h z.1)), rfl, rfl, rfl, rfl⟩
theorem sm_sJ {σ : zS} {q k a : Nat} {x : Int64} (h : a ≠ q) : sm σ (sJ σ q k x) a := ⟨rfl, rfl, rfl, funext (fun _ => if_neg (fun z => h z.1)), rfl, rfl, rfl⟩
theorem sm_sR {σ : zS} {q k a : Nat} {x : Nat} (h : a ≠ q) : sm σ (sR σ q k x) a := ⟨rfl, rfl, rfl, rfl, funext (fun _ => if_neg (fun z => h z.1)), rfl, rfl⟩
theorem sm_nX {σ : zS} {a : Nat} (h : a < gT σ) : sm σ (nX σ) a := ⟨if_neg (by omega), rfl, rfl, rfl, rfl, rfl, rfl⟩
theorem sm_nA {σ : zS} {n a : Nat} (h : a < gT σ) : sm σ (nA σ n) a := ⟨if_neg (by omega), if_neg (by omega), rfl, rfl, rfl, if_neg (by omega), rfl⟩
theorem zS_ext {σ τ : zS} (h1 : gD σ = gD τ) (h2 : gN σ = gN τ) (h3 : gI σ = gI τ) (h4 : gJ σ = gJ τ) (h5 : gR σ = gR τ) (h6 : gA σ = gA τ) (h7 : gB σ = gB τ) (h8 : gT σ = gT τ) : σ = τ := Prod.ext h1 (Prod.ext h2 (Prod.ext h3 (Prod.ext h4 (Prod.ext h5 (Prod.ext h6 (Prod.ext h7 h8))))))
theorem sA_comm {σ : zS} {p q : Nat} {f g : Nat → Int32} (h : p ≠ q) : sA (sA σ p f) q g = sA (sA σ q g) p f := by
  refine zS_ext (by rw [gD_sA, gD_sA, gD_sA, gD_sA]) (by rw [gN_sA, gN_sA, gN_sA, gN_sA]) (by rw [gI_sA, gI_sA, gI_sA, gI_sA]) (by rw [gJ_sA, gJ_sA, gJ_sA, gJ_sA]) (by rw [gR_sA, gR_sA, gR_sA, gR_sA]) ?_ (by rw [gB_sA, gB_sA, gB_sA, gB_sA]) (by rw [gT_sA, gT_sA, gT_sA, gT_sA])
  funext b
  rw [gA_sA, gA_sA, gA_sA, gA_sA]
  by_cases e : b = q
  · rw [if_pos e, if_neg (fun z => h (z.symm.trans e)), if_pos e]
  · rw [if_neg e, if_neg e]
theorem sB_comm {σ : zS} {p q : Nat} {f g : Nat → Int64} (h : p ≠ q) : sB (sB σ p f) q g = sB (sB σ q g) p f := by
  refine zS_ext (by rw [gD_sB, gD_sB, gD_sB, gD_sB]) (by rw [gN_sB, gN_sB, gN_sB, gN_sB]) (by rw [gI_sB, gI_sB, gI_sB, gI_sB]) (by rw [gJ_sB, gJ_sB, gJ_sB, gJ_sB]) (by rw [gR_sB, gR_sB, gR_sB, gR_sB]) (by rw [gA_sB, gA_sB, gA_sB, gA_sB]) ?_ (by rw [gT_sB, gT_sB, gT_sB, gT_sB])
  funext b
  rw [gB_sB, gB_sB, gB_sB, gB_sB]
  by_cases e : b = q
  · rw [if_pos e, if_neg (fun z => h (z.symm.trans e)), if_pos e]
  · rw [if_neg e, if_neg e]
theorem sI_comm {σ : zS} {p j q k : Nat} {x y : Int32} (h : ¬ (p = q ∧ j = k)) : sI (sI σ p j x) q k y = sI (sI σ q k y) p j x := by
  refine zS_ext (by rw [gD_sI, gD_sI, gD_sI, gD_sI]) (by rw [gN_sI, gN_sI, gN_sI, gN_sI]) ?_ (by rw [gJ_sI, gJ_sI, gJ_sI, gJ_sI]) (by rw [gR_sI, gR_sI, gR_sI, gR_sI]) (by rw [gA_sI, gA_sI, gA_sI, gA_sI]) (by rw [gB_sI, gB_sI, gB_sI, gB_sI]) (by rw [gT_sI, gT_sI, gT_sI, gT_sI])
  funext b i
  rw [gI_sI, gI_sI, gI_sI, gI_sI]
  by_cases e : b = q ∧ i = k
  · rw [if_pos e, if_neg (fun z => h ⟨z.1.symm.trans e.1, z.2.symm.trans e.2⟩), if_pos e]
  · rw [if_neg e, if_neg e]
theorem sI_sI {σ : zS} {p j : Nat} {x y : Int32} : sI (sI σ p j x) p j y = sI σ p j y := by
  refine zS_ext (by rw [gD_sI, gD_sI, gD_sI]) (by rw [gN_sI, gN_sI, gN_sI]) ?_ (by rw [gJ_sI, gJ_sI, gJ_sI]) (by rw [gR_sI, gR_sI, gR_sI]) (by rw [gA_sI, gA_sI, gA_sI]) (by rw [gB_sI, gB_sI, gB_sI]) (by rw [gT_sI, gT_sI, gT_sI])
  funext b i
  rw [gI_sI, gI_sI, gI_sI]
  by_cases e : b = p ∧ i = j
  · rw [if_pos e, if_pos e]
  · rw [if_neg e, if_neg e, if_neg e]
theorem sJ_sJ {σ : zS} {p j : Nat} {x y : Int64} : sJ (sJ σ p j x) p j y = sJ σ p j y := by
  refine zS_ext (by rw [gD_sJ, gD_sJ, gD_sJ]) (by rw [gN_sJ, gN_sJ, gN_sJ]) (by rw [gI_sJ, gI_sJ, gI_sJ]) ?_ (by rw [gR_sJ, gR_sJ, gR_sJ]) (by rw [gA_sJ, gA_sJ, gA_sJ]) (by rw [gB_sJ, gB_sJ, gB_sJ]) (by rw [gT_sJ, gT_sJ, gT_sJ])
  funext b i
  rw [gJ_sJ, gJ_sJ, gJ_sJ]
  by_cases e : b = p ∧ i = j
  · rw [if_pos e, if_pos e]
  · rw [if_neg e, if_neg e, if_neg e]
theorem sI_same {σ : zS} {p j : Nat} {x : Int32} (h : x = gI σ p j) : sI σ p j x = σ := by
  subst h
  refine zS_ext (by rw [gD_sI]) (by rw [gN_sI]) ?_ (by rw [gJ_sI]) (by rw [gR_sI]) (by rw [gA_sI]) (by rw [gB_sI]) (by rw [gT_sI])
  funext b i
  rw [gI_sI]
  by_cases e : b = p ∧ i = j
  · rw [if_pos e, e.1, e.2]
  · rw [if_neg e]
theorem sA_sI {σ : zS} {p q k : Nat} {f : Nat → Int32} {x : Int32} : sA (sI σ q k x) p f = sI (sA σ p f) q k x := zS_ext rfl rfl rfl rfl rfl rfl rfl rfl
theorem sB_sI {σ : zS} {p q k : Nat} {f : Nat → Int64} {x : Int32} : sB (sI σ q k x) p f = sI (sB σ p f) q k x := zS_ext rfl rfl rfl rfl rfl rfl rfl rfl
theorem sB_sA {σ : zS} {p q : Nat} {f : Nat → Int64} {g : Nat → Int32} : sB (sA σ q g) p f = sA (sB σ p f) q g := zS_ext rfl rfl rfl rfl rfl rfl rfl rfl
theorem sA_sJ {σ : zS} {p q k : Nat} {f : Nat → Int32} {x : Int64} : sA (sJ σ q k x) p f = sJ (sA σ p f) q k x := zS_ext rfl rfl rfl rfl rfl rfl rfl rfl
theorem sI_sJ {σ : zS} {p j q k : Nat} {y : Int32} {x : Int64} : sI (sJ σ q k x) p j y = sJ (sI σ p j y) q k x := zS_ext rfl rfl rfl rfl rfl rfl rfl rfl
