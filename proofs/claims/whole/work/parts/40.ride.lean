/-! RIDES OVER THE WHOLE STATE -/
theorem sd_le {T : Tw} {R : Nat → Nat → Bool} {c : Nat} (hw : wf T) (hR : ∀ a b, R a b = true → isA T a = true ∧ isA T b = true) : ∀ d a, sd T R c a = some d → d ≤ 99 * cp (fun x => cB (∃ e, sd T R c x = some e ∧ e ≤ d)) 48 := by
  intro d
  induction d using Nat.strongRecOn with
  | ind d ih =>
    intro a h
    have hA := sd_A hR h
    have h24 := hw.2.1
    have hl := isA_lt hA
    have hb := wf_bg hw hl
    by_cases he : en T a = c
    · have h2 := sd_end (R := R) hA he
      rw [h] at h2
      have h3 : d = ln T a := Option.some.inj h2
      have := cp_pos (p := fun x => cB (∃ e, sd T R c x = some e ∧ e ≤ d)) 48 a (by omega) (cB_iff.2 ⟨d, h, Nat.le_refl _⟩)
      omega
    · obtain ⟨b, e, b1, b2, b3⟩ := sd_dn h he
      have h1 := ih e (by omega) b b2
      have h2 := cp_one (p := fun x => cB (∃ e2, sd T R c x = some e2 ∧ e2 ≤ e)) (q := fun x => cB (∃ e2, sd T R c x = some e2 ∧ e2 ≤ d)) (n := 48) (a := a) (by omega) (cB_iff.2 ⟨d, h, Nat.le_refl _⟩) (cB_f.2 (fun ⟨e2, k1, k2⟩ => by rw [h] at k1; cases k1; omega)) (fun j _ hj => by
        obtain ⟨e2, k1, k2⟩ := cB_iff.1 hj
        exact cB_iff.2 ⟨e2, k1, by omega⟩)
      omega
theorem sd_le2 {T : Tw} {R : Nat → Nat → Bool} {c a d : Nat} (hw : wf T) (hR : ∀ a b, R a b = true → isA T a = true ∧ isA T b = true) (h : sd T R c a = some d) : d ≤ 4752 := by
  have h1 := sd_le hw hR d a h
  have h2 := cp_le (p := fun x => cB (∃ e, sd T R c x = some e ∧ e ≤ d)) 48
  omega
theorem rl_le {T : Tw} {R : Nat → Nat → Bool} {c f d : Nat} (hw : wf T) (hR : ∀ a b, R a b = true → isA T a = true ∧ isA T b = true) (h : rl T R c f = some d) : d ≤ 4752 := by
  unfold rl at h
  split at h
  · cases h
    omega
  · cases e : fa T R c f with
    | none =>
      rw [e] at h
      cases h
    | some a =>
      rw [e] at h
      exact sd_le2 hw hR h
/-- the class's rides to a corner -/
def AM (σ : zS) (T : Tw) (R : Nat → Nat → Bool) (c : Nat) : Prop := gI σ 56 2 = Int32.ofInt c ∧ ∀ a, a < 48 → gA σ 58 a = Int32.ofInt (fr 268435456 (sd T R c a))
theorem AM_fz {lo hi : Nat} {σ τ : zS} {T : Tw} {R : Nat → Nat → Bool} {c : Nat} (f : fz lo hi σ τ) (h1 : 59 ≤ lo ∨ (57 ≤ lo ∧ hi ≤ 58)) (h : AM σ T R c) : AM τ T R c := by
  unfold AM
  rw [fz_I f (by omega), fz_A f (by omega)]
  exact h
theorem u_aimQ {σ : zS} {t q c : Nat} {T : Tw} {r : Rl} {R : Nat → Nat → Bool} {Q : zQ} (h : QC σ t T r) (hd : gD σ q = 2) (hn : gN σ q = 48) (hR : NX (gB σ q) T R) (hE : ∀ a b, R a b = true → en T a = bg T b) (hc : c < nC T) (hQ : ∀ τ, fz 56 59 σ τ → AM τ T R c → Q (.inl none) (hOf τ)) : zW zP 44 [.ref 56, .ref t, .ref q, .int (Int32.ofInt c)] (hOf σ) Q := by
  refine u_aim (QC_T h) (QC_w h) (QC_S h) (LA_Routes (QC_A h)) hd hn hR hE hc (fun f hf _ => hQ _ (fz_trans (fz_sI (by omega)) (fz_sA (by omega))) ⟨?_, fun a ha => ?_⟩)
  · rw [gI_sA, gI_sI, if_pos ⟨rfl, rfl⟩]
  · rw [gA_self]
    exact hf a ha
theorem u_lenQ {σ : zS} {t c f : Nat} {T : Tw} {r : Rl} {R : Nat → Nat → Bool} {Q : zQ} (h : QC σ t T r) (ha : AM σ T R c) (hR : ∀ a b, R a b = true → isA T a = true ∧ isA T b = true) (hc : c < nC T) (hf : f < nC T) (hQ : Q (.inl (some (.int (Int32.ofInt (oI (rl T R c f)))))) (hOf σ)) : zW zP 61 [.ref 56, .ref t, .int (Int32.ofInt f)] (hOf σ) Q :=
  u_len (QC_T h) (QC_w h) (QC_S h) (LA_Routes (QC_A h)) ha.1 hc ha.2 (fun a d hd => by have := sd_le2 (QC_w h) hR hd; omega) hf hQ
theorem u_traceQ {σ : zS} {t q c f : Nat} {T : Tw} {r : Rl} {R : Nat → Nat → Bool} {Q : zQ} (h : QC σ t T r) (ha : AM σ T R c) (hd : gD σ q = 2) (hn : gN σ q = 48) (hR : NX (gB σ q) T R) (hc : c < nC T) (hf : f < nC T) (hQ : ∀ τ, fz 57 58 σ τ → (∀ k a, pk T R c f k = some a → gA τ 57 k = Int32.ofInt a) → Q (.inl (some (.int (Int32.ofInt (pn T R c f))))) (hOf τ)) : zW zP 47 [.ref 56, .ref t, .ref q, .int (Int32.ofInt f)] (hOf σ) Q := by
  refine u_trace (QC_T h) (QC_w h) (QC_S h) (LA_Routes (QC_A h)) hd hn hR ha.1 hc ha.2 (fun a d hd => by have := sd_le2 (QC_w h) hR.2 hd; omega) hf (fun g hg => hQ _ (fz_sA (by omega)) (fun k a hk => ?_))
  rw [gA_self]
  exact hg k a hk
