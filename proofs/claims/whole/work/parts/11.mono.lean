/-! THE SMALL MACHINE IS MONOTONE: a stronger end, a stronger start -/
theorem zv1_m {S : List Value} {f g : Value → List Value → Prop} (h : ∀ v S, f v S → g v S) (x : zv1 S f) : zv1 S g := by
  unfold zv1 at x ⊢
  split at x
  · exact h _ _ x
  · exact x.elim
theorem zv2_m {S : List Value} {f g : Value → Value → List Value → Prop} (h : ∀ v w S, f v w S → g v w S) (x : zv2 S f) : zv2 S g := by
  unfold zv2 at x ⊢
  split at x
  · exact h _ _ _ x
  · exact x.elim
theorem zi1_m {S : List Value} {f g : Int32 → List Value → Prop} (h : ∀ v S, f v S → g v S) (x : zi1 S f) : zi1 S g := by
  unfold zi1 at x ⊢
  split at x
  · exact h _ _ x
  · exact x.elim
theorem zi2_m {S : List Value} {f g : Int32 → Int32 → List Value → Prop} (h : ∀ v w S, f v w S → g v w S) (x : zi2 S f) : zi2 S g := by
  unfold zi2 at x ⊢
  split at x
  · exact h _ _ _ x
  · exact x.elim
theorem zl1_m {S : List Value} {f g : Int64 → List Value → Prop} (h : ∀ v S, f v S → g v S) (x : zl1 S f) : zl1 S g := by
  unfold zl1 at x ⊢
  split at x
  · exact h _ _ x
  · exact x.elim
theorem zl2_m {S : List Value} {f g : Int64 → Int64 → List Value → Prop} (h : ∀ v w S, f v w S → g v w S) (x : zl2 S f) : zl2 S g := by
  unfold zl2 at x ⊢
  split at x
  · exact h _ _ _ x
  · exact x.elim
theorem zil_m {S : List Value} {f g : Int64 → Int32 → List Value → Prop} (h : ∀ v w S, f v w S → g v w S) (x : zil S f) : zil S g := by
  unfold zil at x ⊢
  split at x
  · exact h _ _ _ x
  · exact x.elim
theorem zr1_m {S : List Value} {f g : Nat → List Value → Prop} (h : ∀ v S, f v S → g v S) (x : zr1 S f) : zr1 S g := by
  unfold zr1 at x ⊢
  split at x
  · exact h _ _ x
  · exact x.elim
theorem zvr_m {S : List Value} {f g : Value → Nat → List Value → Prop} (h : ∀ v w S, f v w S → g v w S) (x : zvr S f) : zvr S g := by
  unfold zvr at x ⊢
  split at x
  · exact h _ _ _ x
  · exact x.elim
theorem zir_m {S : List Value} {f g : Int32 → Nat → List Value → Prop} (h : ∀ v w S, f v w S → g v w S) (x : zir S f) : zir S g := by
  unfold zir at x ⊢
  split at x
  · exact h _ _ _ x
  · exact x.elim
theorem ziir_m {S : List Value} {f g : Int32 → Int32 → Nat → List Value → Prop} (h : ∀ u v w S, f u v w S → g u v w S) (x : ziir S f) : ziir S g := by
  unfold ziir at x ⊢
  split at x
  · exact h _ _ _ _ x
  · exact x.elim
theorem zlir_m {S : List Value} {f g : Int64 → Int32 → Nat → List Value → Prop} (h : ∀ u v w S, f u v w S → g u v w S) (x : zlir S f) : zlir S g := by
  unfold zlir at x ⊢
  split at x
  · exact h _ _ _ _ x
  · exact x.elim
theorem zcpS_m {S : List Value} {f g : Int32 → Int32 → Nat → Int32 → Nat → List Value → Prop} (h : ∀ a b c d e S, f a b c d e S → g a b c d e S) (x : zcpS S f) : zcpS S g := by
  unfold zcpS at x ⊢
  split at x
  · exact h _ _ _ _ _ _ x
  · exact x.elim
theorem zgi_m {L : zL} {i : Nat} {f g : Int32 → Prop} (h : ∀ v, f v → g v) (x : zgi L i f) : zgi L i g := by
  unfold zgi at x ⊢
  split at x
  · exact h _ x
  · exact x.elim
theorem zgl_m {L : zL} {i : Nat} {f g : Int64 → Prop} (h : ∀ v, f v → g v) (x : zgl L i f) : zgl L i g := by
  unfold zgl at x ⊢
  split at x
  · exact h _ x
  · exact x.elim
theorem zgr_m {L : zL} {i : Nat} {f g : Nat → Prop} (h : ∀ v, f v → g v) (x : zgr L i f) : zgr L i g := by
  unfold zgr at x ⊢
  split at x
  · exact h _ x
  · exact x.elim
theorem zaI_m {c : zC} {f g : Nat → (Nat → Int32) → Prop} (h : ∀ n a, f n a → g n a) (x : zaI c f) : zaI c g := by
  unfold zaI at x ⊢
  split at x
  · exact h _ _ x
  · exact x.elim
theorem zaL_m {c : zC} {f g : Nat → (Nat → Int64) → Prop} (h : ∀ n a, f n a → g n a) (x : zaL c f) : zaL c g := by
  unfold zaL at x ⊢
  split at x
  · exact h _ _ x
  · exact x.elim
theorem zaR_m {c : zC} {f g : Nat → (Nat → Option Nat) → Prop} (h : ∀ n a, f n a → g n a) (x : zaR c f) : zaR c g := by
  unfold zaR at x ⊢
  split at x
  · exact h _ _ x
  · exact x.elim
theorem zob_m {c : zC} {ci : Nat} {f g : List Value → Prop} (h : ∀ n, f n → g n) (x : zob c ci f) : zob c ci g := by
  unfold zob at x ⊢
  split at x
  · exact ⟨x.1, h _ x.2⟩
  · exact x.elim
theorem zfd_m {fs : List Value} {k : Nat} {f g : Value → Prop} (h : ∀ n, f n → g n) (x : zfd fs k f) : zfd fs k g := by
  unfold zfd at x ⊢
  split at x
  · exact h _ x
  · exact x.elim
theorem zlen_m {c : zC} {f g : Nat → Prop} (h : ∀ n, f n → g n) (x : zlen c f) : zlen c g := by
  unfold zlen at x ⊢
  split at x
  · exact ⟨x.1, h _ x.2⟩
  · exact x.elim
section ZM
variable {P : Nat → zM} {C C' : Nat → List Value → zH → zQ → Prop} {k : Nat} {J J' : Nat → zK} {Q Q' : zQ} {K K' : zK}
set_option maxHeartbeats 2000000 in
theorem zstp_m (hC : ∀ a av h q q', (∀ x h2, q x h2 → q' x h2) → C a av h q → C' a av h q') (hJ : ∀ t, zimp (J t) (J' t)) (hQ : ∀ x h, Q x h → Q' x h) (hK : zimp K K') (o : zOp) : zimp (zstp P C k J Q o K) (zstp P C' k J' Q' o K') := by
  intro L S h kc ks hst
  obtain ⟨pc, i, len, a, b, d⟩ := o
  cases i
  all_goals first
    | exact (show False from hst).elim
    | skip
  case iconst z => exact hK _ _ _ _ _ hst
  case bipush z => exact hK _ _ _ _ _ hst
  case sipush z => exact hK _ _ _ _ _ hst
  case lconst z => exact hK _ _ _ _ _ hst
  case ldc_w z => exact hK _ _ _ _ _ hst
  case ldc2_w z => exact hK _ _ _ _ _ hst
  case ldc z => 
    by_cases ha : a = 1
    · subst ha
      exact hK _ _ _ _ _ hst
    · have h1 : zstp P C k J Q (pc, .ldc z, len, a, b, d) K L S h kc ks := hst
      show zstp P C' k J' Q' (pc, .ldc z, len, a, b, d) K' L S h kc ks
      unfold zstp at h1 ⊢
      simp only [if_neg ha] at h1 ⊢
      exact hK _ _ _ _ _ h1
  case iload_n z => exact zgi_m (fun _ => hK _ _ _ _ _) hst
  case iload z => exact zgi_m (fun _ => hK _ _ _ _ _) hst
  case istore_n z => exact zi1_m (fun _ _ => hK _ _ _ _ _) hst
  case istore z => exact zi1_m (fun _ _ => hK _ _ _ _ _) hst
  case lload_n z => exact zgl_m (fun _ => hK _ _ _ _ _) hst
  case lload z => exact zgl_m (fun _ => hK _ _ _ _ _) hst
  case lstore_n z => exact zl1_m (fun _ _ => hK _ _ _ _ _) hst
  case lstore z => exact zl1_m (fun _ _ => hK _ _ _ _ _) hst
  case aload_n z => exact zgr_m (fun _ => hK _ _ _ _ _) hst
  case aload z => exact zgr_m (fun _ => hK _ _ _ _ _) hst
  case astore_n z => exact zr1_m (fun _ _ => hK _ _ _ _ _) hst
  case astore z => exact zr1_m (fun _ _ => hK _ _ _ _ _) hst
  case iinc z y => exact zgi_m (fun _ => hK _ _ _ _ _) hst
  case iadd => exact zi2_m (fun _ _ _ => hK _ _ _ _ _) hst
  case isub => exact zi2_m (fun _ _ _ => hK _ _ _ _ _) hst
  case imul => exact zi2_m (fun _ _ _ => hK _ _ _ _ _) hst
  case iand => exact zi2_m (fun _ _ _ => hK _ _ _ _ _) hst
  case ior => exact zi2_m (fun _ _ _ => hK _ _ _ _ _) hst
  case ixor => exact zi2_m (fun _ _ _ => hK _ _ _ _ _) hst
  case ishl => exact zi2_m (fun _ _ _ => hK _ _ _ _ _) hst
  case ishr => exact zi2_m (fun _ _ _ => hK _ _ _ _ _) hst
  case iushr => exact zi2_m (fun _ _ _ => hK _ _ _ _ _) hst
  case idiv => exact zi2_m (fun _ _ _ h => ⟨h.1, hK _ _ _ _ _ h.2⟩) hst
  case irem => exact zi2_m (fun _ _ _ h => ⟨h.1, hK _ _ _ _ _ h.2⟩) hst
  case ineg => exact zi1_m (fun _ _ => hK _ _ _ _ _) hst
  case i2l => exact zi1_m (fun _ _ => hK _ _ _ _ _) hst
  case ladd => exact zl2_m (fun _ _ _ => hK _ _ _ _ _) hst
  case lsub => exact zl2_m (fun _ _ _ => hK _ _ _ _ _) hst
  case land => exact zl2_m (fun _ _ _ => hK _ _ _ _ _) hst
  case lor => exact zl2_m (fun _ _ _ => hK _ _ _ _ _) hst
  case lxor => exact zl2_m (fun _ _ _ => hK _ _ _ _ _) hst
  case lcmp => exact zl2_m (fun _ _ _ => hK _ _ _ _ _) hst
  case lneg => exact zl1_m (fun _ _ => hK _ _ _ _ _) hst
  case l2i => exact zl1_m (fun _ _ => hK _ _ _ _ _) hst
  case lshl => exact zil_m (fun _ _ _ => hK _ _ _ _ _) hst
  case lushr => exact zil_m (fun _ _ _ => hK _ _ _ _ _) hst
  case dup => exact zv1_m (fun _ _ h => ⟨h.1, hK _ _ _ _ _ h.2⟩) hst
  case pop => exact zv1_m (fun _ _ h => ⟨h.1, hK _ _ _ _ _ h.2⟩) hst
  case dup2 => exact zv2_m (fun _ _ _ h => ⟨h.1, h.2.1, hK _ _ _ _ _ h.2.2⟩) hst
  case goto off => exact hJ _ _ _ _ _ _ hst
  case ifCond cd off => cases cd <;> exact zi1_m (fun _ _ h => ⟨fun z => hJ _ _ _ _ _ _ (h.1 z), fun z => hK _ _ _ _ _ (h.2 z)⟩) hst
  case if_icmp cd off => cases cd <;> exact zi2_m (fun _ _ _ h => ⟨fun z => hJ _ _ _ _ _ _ (h.1 z), fun z => hK _ _ _ _ _ (h.2 z)⟩) hst
  case tableswitch dflt lo hi offs => exact zi1_m (fun _ _ h => ⟨fun z => hJ _ _ _ _ _ _ (h.1 z), fun j off e1 e2 => hJ _ _ _ _ _ _ (h.2 j off e1 e2)⟩) hst
  case getfield j => exact zr1_m (fun _ _ => zob_m (fun _ => zfd_m (fun _ => hK _ _ _ _ _))) hst
  case putfield j => exact zvr_m (fun _ _ _ => zob_m (fun _ h => ⟨h.1, h.2.1, h.2.2.1, hK _ _ _ _ _ h.2.2.2⟩)) hst
  case iaload => exact zir_m (fun _ _ _ => zaI_m (fun _ _ h => ⟨h.1, hK _ _ _ _ _ h.2⟩)) hst
  case laload => exact zir_m (fun _ _ _ => zaL_m (fun _ _ h => ⟨h.1, hK _ _ _ _ _ h.2⟩)) hst
  case aaload => exact zir_m (fun _ _ _ => zaR_m (fun _ _ h => ⟨h.1, hK _ _ _ _ _ h.2⟩)) hst
  case iastore => exact ziir_m (fun _ _ _ _ => zaI_m (fun _ _ h => ⟨h.1, h.2.1, hK _ _ _ _ _ h.2.2⟩)) hst
  case lastore => exact zlir_m (fun _ _ _ _ => zaL_m (fun _ _ h => ⟨h.1, h.2.1, hK _ _ _ _ _ h.2.2⟩)) hst
  case arraylength => exact zr1_m (fun _ _ => zlen_m (fun _ => hK _ _ _ _ _)) hst
  case newarray ty => 
    refine zi1_m (fun _ _ h => ⟨h.1, h.2.1, h.2.2.1, h.2.2.2.1, ?_⟩) hst
    have h5 := h.2.2.2.2
    cases ty
    case int => exact hK _ _ _ _ _ h5
    case long => exact hK _ _ _ _ _ h5
    all_goals exact (show False from h5).elim
  case multianewarray j dd => exact zi2_m (fun _ _ _ h => ⟨h.1, h.2.1, h.2.2.1, h.2.2.2.1, h.2.2.2.2.1, h.2.2.2.2.2.1, hK _ _ _ _ _ h.2.2.2.2.2.2⟩) hst
  case new j => exact ⟨hst.1, hst.2.1, hK _ _ _ _ _ hst.2.2⟩
  case athrow => exact ⟨hst.1, hst.2.1, hst.2.2.1, hQ _ _ hst.2.2.2⟩
  case invokevirtual j => 
    by_cases hd5 : d = 5
    · subst hd5
      have h1 : zstp P C k J Q (pc, .invokevirtual j, len, a, b, 5) K L S h kc ks := hst
      show zstp P C' k J' Q' (pc, .invokevirtual j, len, a, b, 5) K' L S h kc ks
      unfold zstp at h1 ⊢
      simp only [if_true] at h1 ⊢
      exact zr1_m (fun _ _ z => ⟨z.1, z.2.1, hK _ _ _ _ _ z.2.2⟩) h1
    by_cases hd6 : d = 6
    · subst hd6
      have h1 : zstp P C k J Q (pc, .invokevirtual j, len, a, b, 6) K L S h kc ks := hst
      show zstp P C' k J' Q' (pc, .invokevirtual j, len, a, b, 6) K' L S h kc ks
      unfold zstp at h1 ⊢
      simp only [if_neg hd5, if_true] at h1 ⊢
      exact zir_m (fun _ _ _ z => ⟨z.1, z.2.1, z.2.2.1, hK _ _ _ _ _ z.2.2.2⟩) h1
    have hst : zstp P C k J Q (pc, .invokevirtual j, len, a, b, d) K L S h kc ks := hst
    show zstp P C' k J' Q' (pc, .invokevirtual j, len, a, b, d) K' L S h kc ks
    unfold zstp at hst ⊢
    simp only [if_neg hd5, if_neg hd6] at hst ⊢
    obtain ⟨h1, h2, h3, h4, h5⟩ := hst
    refine ⟨h1, h2, h3, h4, ?_⟩
    split at h5
    · refine zob_m (fun _ h6 => hC _ _ _ _ _ ?_ h6) h5
      intro x h9 hx
      cases x with
      | inl v => exact hK _ _ _ _ _ hx
      | inr E =>
        have hx2 : (match zthr (zhd (P k)) pc E with
          | some (t, pl) => J t (L.filter (fun q => !(q.1 == pl) && !(q.1 + 1 == pl && q.2.category == 2))) [] h9 (kc + zmc (P a)) (ks + zms (P a))
          | none => (zhd (P k)).isEmpty = true ∧ Q (.inr E) h9) := hx
        show (match zthr (zhd (P k)) pc E with
          | some (t, pl) => J' t (L.filter (fun q => !(q.1 == pl) && !(q.1 + 1 == pl && q.2.category == 2))) [] h9 (kc + zmc (P a)) (ks + zms (P a))
          | none => (zhd (P k)).isEmpty = true ∧ Q' (.inr E) h9)
        split at hx2
        · exact hJ _ _ _ _ _ _ hx2
        · exact ⟨hx2.1, hQ _ _ hx2.2⟩
    · exact h5.elim
  case invokestatic j => 
    by_cases hd2 : d = 2
    · subst hd2
      have h1 : zstp P C k J Q (pc, .invokestatic j, len, a, b, 2) K L S h kc ks := hst
      show zstp P C' k J' Q' (pc, .invokestatic j, len, a, b, 2) K' L S h kc ks
      unfold zstp at h1 ⊢
      simp only [if_true] at h1 ⊢
      refine zcpS_m (fun n dp q sp q0 S h9 => ⟨h9.1, h9.2.1, h9.2.2.1, h9.2.2.2.1, h9.2.2.2.2.1, h9.2.2.2.2.2.1, ?_⟩) h1
      have h8 := h9.2.2.2.2.2.2
      by_cases ha : a = 0
      · rw [if_pos ha] at h8 ⊢
        exact zaI_m (fun _ _ => zaI_m (fun _ _ z => ⟨z.1, z.2.1, hK _ _ _ _ _ z.2.2⟩)) h8
      · rw [if_neg ha] at h8 ⊢
        exact zaL_m (fun _ _ => zaL_m (fun _ _ z => ⟨z.1, z.2.1, hK _ _ _ _ _ z.2.2⟩)) h8
    · have h1 : zstp P C k J Q (pc, .invokestatic j, len, a, b, d) K L S h kc ks := hst
      show zstp P C' k J' Q' (pc, .invokestatic j, len, a, b, d) K' L S h kc ks
      unfold zstp at h1 ⊢
      simp only [if_neg hd2] at h1 ⊢
      refine ⟨h1.1, h1.2.1, h1.2.2.1, h1.2.2.2.1, hC _ _ _ _ _ ?_ h1.2.2.2.2⟩
      intro x h9 hx
      cases x with
      | inl v => exact hK _ _ _ _ _ hx
      | inr E => exact hx.elim
  case invokespecial j => 
    by_cases hd2 : d = 3
    · subst hd2
      have h1 : zstp P C k J Q (pc, .invokespecial j, len, a, b, 3) K L S h kc ks := hst
      show zstp P C' k J' Q' (pc, .invokespecial j, len, a, b, 3) K' L S h kc ks
      unfold zstp at h1 ⊢
      simp only [if_true] at h1 ⊢
      exact zr1_m (fun _ _ z => ⟨z.1, hK _ _ _ _ _ z.2⟩) h1
    · have h1 : zstp P C k J Q (pc, .invokespecial j, len, a, b, d) K L S h kc ks := hst
      show zstp P C' k J' Q' (pc, .invokespecial j, len, a, b, d) K' L S h kc ks
      unfold zstp at h1 ⊢
      simp only [if_neg hd2] at h1 ⊢
      refine ⟨h1.1, h1.2.1, h1.2.2.1, h1.2.2.2.1, ?_⟩
      have h5 := h1.2.2.2.2
      split at h5
      · refine hC _ _ _ _ _ ?_ h5
        intro x h9 hx
        match x, hx with
        | .inl none, hx => exact hK _ _ _ _ _ hx
      · exact h5.elim
  case ireturn => 
    have h1 : zstp P C k J Q (pc, .ireturn, len, a, b, d) K L S h kc ks := hst
    match S, h1 with
    | [.int v], h1 => exact ⟨h1.1, h1.2.1, h1.2.2.1, hQ _ _ h1.2.2.2⟩
  case lreturn => 
    have h1 : zstp P C k J Q (pc, .lreturn, len, a, b, d) K L S h kc ks := hst
    match S, h1 with
    | [.long v], h1 => exact ⟨h1.1, h1.2.1, hQ _ _ h1.2.2⟩
  case areturn => 
    have h1 : zstp P C k J Q (pc, .areturn, len, a, b, d) K L S h kc ks := hst
    match S, h1 with
    | [.ref v], h1 => exact ⟨h1.1, h1.2.1, hQ _ _ h1.2.2⟩
  case return_ => 
    have h1 : zstp P C k J Q (pc, .return_, len, a, b, d) K L S h kc ks := hst
    match S, h1 with
    | [], h1 => exact ⟨h1.1, h1.2.1, hQ _ _ h1.2.2⟩
theorem zrun_m (hC : ∀ a av h q q', (∀ x h2, q x h2 → q' x h2) → C a av h q → C' a av h q') (hJ : ∀ t, zimp (J t) (J' t)) (hQ : ∀ x h, Q x h → Q' x h) : ∀ (ops : List zOp) (e : Nat), zimp (zrun P C k J Q ops e) (zrun P C' k J' Q' ops e)
  | [], e => hJ e
  | o :: r, e => zstp_m hC hJ hQ (zrun_m hC hJ hQ r e) o
theorem zblk_m (hC : ∀ a av h q q', (∀ x h2, q x h2 → q' x h2) → C a av h q → C' a av h q') (hJ : ∀ t, zimp (J t) (J' t)) (hQ : ∀ x h, Q x h → Q' x h) (pc : Nat) : zimp (zblk P C k Q J pc) (zblk P C' k Q' J' pc) := by
  intro L S h kc ks hst
  unfold zblk at hst ⊢
  split at hst
  · exact zrun_m hC hJ hQ _ _ _ _ _ _ _ hst
  · exact hst.elim
theorem zfp_m (hC : ∀ a av h q q', (∀ x h2, q x h2 → q' x h2) → C a av h q → C' a av h q') (hQ : ∀ x h, Q x h → Q' x h) (pc : Nat) : zimp (zfp P C k Q pc) (zfp P C' k Q' pc) := by
  intro L S h kc ks hst I hI
  exact hst I (fun pc L S h kc ks hb => hI pc L S h kc ks (zblk_m hC (fun _ _ _ _ _ _ z => z) hQ pc _ _ _ _ _ hb))
end ZM
theorem zW_m {P : Nat → zM} : ∀ (k : Nat) (av : List Value) (h : zH) (q q' : zQ), (∀ x h2, q x h2 → q' x h2) → zW P k av h q → zW P k av h q' := by
  intro k
  induction k using Nat.strongRecOn with
  | ind k ih =>
    intro av h q q' hq hw
    rw [zW] at hw ⊢
    refine ⟨hw.1, zfp_m (fun a av' h' r r' hr hz => ?_) hq 0 _ _ _ _ _ hw.2⟩
    obtain ⟨ha, hz⟩ := hz
    exact ⟨ha, ih a ha av' h' r r' hr hz⟩
/-- a call, from the method k -/
def zcall (P : Nat → zM) (k : Nat) : Nat → List Value → zH → zQ → Prop := fun k' a h' Q' => ∃ _ : k' < k, zW P k' a h' Q'
theorem zcall_m {P : Nat → zM} {k : Nat} (a : Nat) (av : List Value) (h : zH) (q q' : zQ) (hq : ∀ x h2, q x h2 → q' x h2) (hc : zcall P k a av h q) : zcall P k a av h q' := by
  obtain ⟨ha, hz⟩ := hc
  exact ⟨ha, zW_m a av h q q' hq hz⟩
theorem zfold {P : Nat → zM} {k : Nat} {Q : zQ} {pc : Nat} {L : zL} {S : List Value} {h : zH} {kc ks : Nat} (hb : zblk P (zcall P k) k Q (zfp P (zcall P k) k Q) pc L S h kc ks) : zfp P (zcall P k) k Q pc L S h kc ks := by
  intro I hI
  exact hI _ _ _ _ _ _ (zblk_m (fun a av h q q' => zcall_m a av h q q') (fun t L S h kc ks z => z I hI) (fun _ _ z => z) pc _ _ _ _ _ hb)
theorem zW_of {P : Nat → zM} {k : Nat} {av : List Value} {h : zH} {Q : zQ} (h1 : zwt av ≤ zml (P k)) (h2 : zfp P (zcall P k) k Q 0 (lv_args 0 av) [] h 0 0) : zW P k av h Q := by
  rw [zW]
  exact ⟨h1, h2⟩
