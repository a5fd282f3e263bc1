/-! THE CLASS'S OWN CONSTRUCTOR -/
theorem uc_obj {s : zS} {p d a : Nat} {y : zC} {ws vs : List Value} (hp : p < gT s) : znew (uc s p y p d ws) (.inr (a + 1, vs)) = uc (nX s) p (.inr (d + 1, ws)) (gT s) a vs := by
  refine zH_ext (fun i => ?_) rfl
  show (if i = gT s then _ else if i = p then _ else if i = p then _ else cel s i) = (if i = gT s then _ else if i = p then _ else cel (nX s) i)
  by_cases c1 : i = gT s
  · rw [if_pos c1, if_pos c1]
  · rw [if_neg c1, if_neg c1]
    by_cases c2 : i = p
    · rw [if_pos c2, if_pos c2]
    · rw [if_neg c2, if_neg c2, if_neg c2]
      have h1 : gD (nX s) i = gD s i := by
        show (if i = gT s then 0 else gD s i) = _
        rw [if_neg c1]
      unfold cel
      rw [h1]
      rfl
theorem zx_ucN {P : Nat → zM} {C : Nat → List Value → zH → zQ → Prop} {k : Nat} {J : Nat → zK} {Q : zQ} {K : zK} {pc len a b m : Nat} {d : Int} {L : zL} {S : List Value} {s : zS} {kc ks p c : Nat} {y : zC} {ws : List Value} (hp : p < gT s) : zstp P C k J Q (pc, .new m, len, a, b, d) K L S (uc s p y p c ws) kc ks = (kc + 1 ≤ zmc (P k) ∧ ks + zsz.getD a 0 ≤ zms (P k) ∧ K L (.ref (gT s) :: S) (uc (nX s) p (.inr (c + 1, ws)) (gT s) a (zdfs a)) (kc + 1) (ks + zsz.getD a 0)) := by
  rw [← uc_obj hp]
  rfl
theorem zx_specC {P : Nat → zM} {C : Nat → List Value → zH → zQ → Prop} {k : Nat} {J : Nat → zK} {Q : zQ} {K : zK} {pc len a j q : Nat} {L : zL} {S : List Value} {h : zH} {kc ks : Nat} : zstp P C k J Q (pc, .invokespecial j, len, a, 1, 0) K L (.ref q :: S) h kc ks = (1 ≤ S.length + 1 ∧ zwt S ≤ 8 ∧ kc + zmc (P a) ≤ zmc (P k) ∧ ks + zms (P a) ≤ zms (P k) ∧ C a [.ref q] h fun x h2 => (match x with
  | .inl none => K L S h2 (kc + zmc (P a)) (ks + zms (P a))
  | _ => False)) := rfl
theorem lt_nX {s : zS} {q : Nat} (h : q < gT s) : (q < gT (nX s)) = True := eq_true (Nat.lt_succ_of_lt h)
theorem lt_fin {s : zS} {q a c : Nat} {I : Nat → Int32} {J : Nat → Int64} {R : Nat → Nat} (h : q < gT s) : (q < gT (fin s a c I J R)) = True := eq_true h
