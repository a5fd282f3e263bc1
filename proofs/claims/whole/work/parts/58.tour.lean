/-! ROUNDS BY ALL BOXES -/
def om (f : Nat → Option Nat) (n : Nat) : Option Nat := (ov f (fun _ => 0) n).1
theorem om_ls {f : Nat → Option Nat} {n : Nat} : ls (fun d => ∃ e, e < n ∧ f e = some d) (om f n) := by
  refine ⟨fun d hd => ?_, fun d ⟨e, h1, h2⟩ => ?_⟩
  · obtain ⟨_, ⟨e, h1, h2⟩, _⟩ := ov_m n hd
    exact ⟨e, h1, h2⟩
  · exact ov_le h1 h2
theorem om_0 {f : Nat → Option Nat} : om f 0 = none := rfl
theorem om_s {f : Nat → Option Nat} {n : Nat} : om f (n + 1) = ol (om f n) (f n) := by
  unfold om
  cases e : f n with
  | none => rw [ov_n e, ol_nr]
  | some x =>
    rw [ov_s e]
    cases e2 : (ov f (fun _ => 0) n).1 with
    | none => rfl
    | some y =>
      dsimp only
      show _ = some (min y x)
      by_cases h1 : x < y
      · rw [if_pos h1, Nat.min_eq_right (by omega)]
      · rw [if_neg h1, Nat.min_eq_left (by omega)]
        by_cases h2 : x = y
        · rw [if_pos h2]
        · rw [if_neg h2, e2]
theorem om_eq {P : Nat → Prop} {f : Nat → Option Nat} {n : Nat} (h1 : ∀ e d, e < n → f e = some d → P d) (h2 : ∀ d, P d → ∃ e x, e < n ∧ f e = some x ∧ x ≤ d) : lw P = om f n := by
  refine ls_lw ⟨fun d hd => ?_, fun d hd => ?_⟩
  · obtain ⟨e, e1, e2⟩ := om_ls.1 d hd
    exact h1 e d e1 e2
  · obtain ⟨e, x, e1, e2, e3⟩ := h2 d hd
    obtain ⟨y, y1, y2⟩ := om_ls.2 x ⟨e, e1, e2⟩
    exact ⟨y, y1, by omega⟩
/-- the box at a corner, as a bit -/
def bxs (p : Nat → Bool) (v : Nat) : Nat := if p v = true then 2 ^ cp p v else 0
theorem bxs_bit {p : Nat → Bool} {v j : Nat} : (bxs p v).testBit j = (p v && decide (cp p v = j)) := by
  unfold bxs
  cases e : p v with
  | true => rw [if_pos rfl, Nat.testBit_two_pow, Bool.true_and]
  | false => rw [if_neg (by simp), Nat.zero_testBit, Bool.false_and]
/-- a ride from the corner c by n arcs more, that ends with arc a, has passed the boxes S, and is d long -/
def rv (T : Tw) (R : Nat → Nat → Bool) (p : Nat → Bool) (c : Nat) : Nat → Nat → Nat → Nat → Prop
  | 0, a, S, d => isA T a = true ∧ bg T a = c ∧ S = bxs p (en T a) ∧ d = ln T a
  | n + 1, a, S, d => ∃ b S2 e, rv T R p c n b S2 e ∧ R b a = true ∧ S = S2 ||| bxs p (en T a) ∧ d = e + ln T a
def sbs (u S : Nat) : Prop := ∀ j, u.testBit j = true → S.testBit j = true
theorem sbs_refl {u : Nat} : sbs u u := fun _ h => h
theorem sbs_trans {u v w : Nat} (h : sbs u v) (g : sbs v w) : sbs u w := fun j hj => g j (h j hj)
theorem sbs_l {u v : Nat} : sbs u (u ||| v) := fun j hj => by rw [Nat.testBit_or, hj]; rfl
theorem sbs_r {u v : Nat} : sbs v (u ||| v) := fun j hj => by rw [Nat.testBit_or, hj, Bool.or_true]
theorem rv_A {T : Tw} {R : Nat → Nat → Bool} {p : Nat → Bool} {c : Nat} (hR : ∀ a b, R a b = true → isA T a = true ∧ isA T b = true) : ∀ n a S d, rv T R p c n a S d → isA T a = true
  | 0, _, _, _, h => h.1
  | n + 1, a, _, _, ⟨b, _, _, _, h, _⟩ => (hR b a h).2
theorem rv_own {T : Tw} {R : Nat → Nat → Bool} {p : Nat → Bool} {c : Nat} : ∀ n a S d, rv T R p c n a S d → sbs (bxs p (en T a)) S
  | 0, _, _, _, h => by
    rw [h.2.2.1]
    exact sbs_refl
  | n + 1, a, _, _, ⟨b, _, _, _, _, h, _⟩ => by
    rw [h]
    exact sbs_r
theorem rv_app {T : Tw} {R : Nat → Nat → Bool} {p : Nat → Bool} {c K : Nat} : ∀ m n a S x b y, rv T R p c n a S x → wi T R K m a b y → ∃ n2 S2, rv T R p c n2 b S2 (x + y) ∧ sbs S S2
  | 0, n, a, S, x, b, y, h, hw => ⟨n + 1, S ||| bxs p (en T b), ⟨a, S, x, h, hw.1, rfl, by rw [hw.2]⟩, sbs_l⟩
  | m + 1, n, a, S, x, b, y, h, ⟨e, z, h1, h2, h3, h4⟩ => by
    obtain ⟨n2, S2, k1, k2⟩ := rv_app m (n + 1) e (S ||| bxs p (en T e)) (x + ln T e) b z ⟨a, S, x, h, h2, rfl, rfl⟩ h3
    refine ⟨n2, S2, ?_, sbs_trans sbs_l k2⟩
    rw [h4, ← Nat.add_assoc]
    exact k1
/-- the shortest beginning that has passed all of u -/
theorem rv_pre {T : Tw} {R : Nat → Nat → Bool} {p : Nat → Bool} {c u : Nat} (hR : ∀ a b, R a b = true → isA T a = true ∧ isA T b = true) (hu : u ≠ 0) : ∀ n a S d, rv T R p c n a S d → sbs u S → ∃ n1 a1 S1 x, rv T R p c n1 a1 S1 x ∧ sbs u S1 ∧ p (en T a1) = true ∧ u.testBit (cp p (en T a1)) = true ∧ ((a1 = a ∧ x = d) ∨ ∃ m y, wi T R (2 * nS T) m a1 a y ∧ x + y = d) := by
  intro n
  induction n with
  | zero =>
    intro a S d h hs
    obtain ⟨j, hj⟩ := nat_ne0 hu
    have h1 := hs j hj
    rw [h.2.2.1, bxs_bit, Bool.and_eq_true, decide_eq_true_eq] at h1
    exact ⟨0, a, S, d, h, hs, h1.1, by rw [h1.2]; exact hj, .inl ⟨rfl, rfl⟩⟩
  | succ n ih =>
    intro a S d h hs
    have h0 := h
    obtain ⟨b, S2, e, k1, k2, k3, k4⟩ := h
    by_cases hc : sbs u S2
    · obtain ⟨n1, a1, S1, x, g1, g2, g3, g4, g5⟩ := ih b S2 e k1 hc
      refine ⟨n1, a1, S1, x, g1, g2, g3, g4, .inr ?_⟩
      rcases g5 with ⟨g5, g6⟩ | ⟨m, y, g5, g6⟩
      · refine ⟨0, ln T a, ⟨by rw [g5]; exact k2, rfl⟩, by omega⟩
      · have hb := isA_lt (hR b a k2).1
        refine ⟨m + 0 + 1, y + ln T a, wi_cat hb (m := 0) (y := ln T a) ⟨k2, rfl⟩ m a1 y g5, by omega⟩
    · have : ∃ j, u.testBit j = true ∧ S2.testBit j = false := by
        apply Classical.byContradiction
        intro hn
        apply hc
        intro j hj
        cases e2 : S2.testBit j with
        | true => rfl
        | false => exact absurd ⟨j, hj, e2⟩ hn
      obtain ⟨j, j1, j2⟩ := this
      have h1 := hs j j1
      rw [k3, Nat.testBit_or, j2, Bool.false_or, bxs_bit, Bool.and_eq_true, decide_eq_true_eq] at h1
      exact ⟨n + 1, a, S, d, h0, hs, h1.1, by rw [h1.2]; exact j1, .inl ⟨rfl, rfl⟩⟩
theorem rv_fst {T : Tw} {R : Nat → Nat → Bool} {p : Nat → Bool} {c : Nat} (hR : ∀ a b, R a b = true → isA T a = true ∧ isA T b = true) : ∀ n a S d, rv T R p c n a S d → ∃ f, isA T f = true ∧ bg T f = c ∧ ((f = a ∧ d = ln T f) ∨ ∃ m y, wi T R (2 * nS T) m f a y ∧ d = ln T f + y)
  | 0, a, S, d, h => ⟨a, h.1, h.2.1, .inl ⟨rfl, h.2.2.2⟩⟩
  | n + 1, a, S, d, ⟨b, S2, e, k1, k2, k3, k4⟩ => by
    obtain ⟨f, f1, f2, f3⟩ := rv_fst hR n b S2 e k1
    refine ⟨f, f1, f2, .inr ?_⟩
    rcases f3 with ⟨f3, f4⟩ | ⟨m, y, f3, f4⟩
    · exact ⟨0, ln T a, ⟨by rw [f3]; exact k2, rfl⟩, by omega⟩
    · exact ⟨m + 0 + 1, y + ln T a, wi_cat (isA_lt (hR b a k2).1) (m := 0) (y := ln T a) ⟨k2, rfl⟩ m f y f3, by omega⟩
/-- the least that ends with a and has passed u -/
noncomputable def rDD (T : Tw) (R : Nat → Nat → Bool) (p : Nat → Bool) (c u a : Nat) : Option Nat := lw (fun d => ∃ n S, rv T R p c n a S d ∧ sbs u S)
/-- the least that comes back -/
noncomputable def rLL (T : Tw) (R : Nat → Nat → Bool) (p : Nat → Bool) (c N : Nat) : Option Nat := lw (fun d => ∃ n a, rv T R p c n a (2 ^ N - 1) d ∧ en T a = c)
noncomputable def fC (T : Tw) (R : Nat → Nat → Bool) (c a f : Nat) : Option Nat := if isA T f = true ∧ bg T f = c then (if f = a then some (ln T f) else oa (some (ln T f)) (mI T R (2 * nS T) f a)) else none
noncomputable def tC (T : Tw) (R : Nat → Nat → Bool) (c a f : Nat) : Option Nat := if isA T f = true ∧ en T f = c then mI T R (2 * nS T) a f else none
theorem rDD_one {T : Tw} {R : Nat → Nat → Bool} {p : Nat → Bool} {c a : Nat} (hR : ∀ a b, R a b = true → isA T a = true ∧ isA T b = true) (ha : isA T a = true) (hp : p (en T a) = true) : rDD T R p c (2 ^ cp p (en T a)) a = om (fC T R c a) (2 * nS T) := by
  have hs : ∀ n S d, rv T R p c n a S d → sbs (2 ^ cp p (en T a)) S := by
    intro n S d h
    have := rv_own n a S d h
    unfold bxs at this
    rw [if_pos hp] at this
    exact this
  refine om_eq (fun f d hf hd => ?_) (fun d ⟨n, S, h1, _⟩ => ?_)
  · unfold fC at hd
    split at hd
    · rename_i hc
      have r0 : rv T R p c 0 f (bxs p (en T f)) (ln T f) := ⟨hc.1, hc.2, rfl, rfl⟩
      split at hd
      · rename_i hfa
        cases hd
        rw [hfa] at r0 ⊢
        exact ⟨0, _, r0, hs _ _ _ r0⟩
      · obtain ⟨x, y, x1, y1, e⟩ := oa_ex hd
        cases x1
        obtain ⟨m, hm⟩ := mI_wi y1
        obtain ⟨n2, S2, k1, k2⟩ := rv_app m 0 f _ _ a y r0 hm
        rw [e]
        exact ⟨n2, S2, k1, hs _ _ _ k1⟩
    · cases hd
  · obtain ⟨f, f1, f2, f3⟩ := rv_fst hR n a S d h1
    have hc : isA T f = true ∧ bg T f = c := ⟨f1, f2⟩
    by_cases hfa : f = a
    · refine ⟨f, ln T f, isA_lt f1, ?_, ?_⟩
      · unfold fC
        rw [if_pos hc, if_pos hfa]
      · rcases f3 with ⟨_, f3⟩ | ⟨m, y, _, f3⟩ <;> omega
    · rcases f3 with ⟨f3, _⟩ | ⟨m, y, f3, f4⟩
      · exact absurd f3 hfa
      · obtain ⟨z, z1, z2⟩ := mI_ex f3
        refine ⟨f, ln T f + z, isA_lt f1, ?_, by omega⟩
        unfold fC
        rw [if_pos hc, if_neg hfa, z1, oa_some]
theorem rDD_step {T : Tw} {R : Nat → Nat → Bool} {p : Nat → Bool} {c a u E : Nat} {ea : Nat → Nat} (hR : ∀ a b, R a b = true → isA T a = true ∧ isA T b = true) (hp : p (en T a) = true) (hu : u ≠ 0) (ht : u.testBit (cp p (en T a)) = false) (hE : ∀ b, isA T b = true → p (en T b) = true → u.testBit (cp p (en T b)) = true → ∃ i, i < E ∧ ea i = b) (f : Nat → Option Nat) (hf : ∀ i, i < E → f i = oa (if u.testBit (cp p (en T (ea i))) = true then rDD T R p c u (ea i) else none) (mI T R (2 * nS T) (ea i) a)) : rDD T R p c (u ||| 2 ^ cp p (en T a)) a = om f E := by
  refine om_eq (fun i d hi hd => ?_) (fun d ⟨n, S, h1, h2⟩ => ?_)
  · rw [hf i hi] at hd
    obtain ⟨x, y, x1, y1, e⟩ := oa_ex hd
    split at x1
    · obtain ⟨n, S, k1, k2⟩ := lw_ls.1 x x1
      obtain ⟨m, hm⟩ := mI_wi y1
      obtain ⟨n2, S2, g1, g2⟩ := rv_app m n (ea i) S x a y k1 hm
      rw [e]
      refine ⟨n2, S2, g1, fun j hj => ?_⟩
      rw [Nat.testBit_or, Bool.or_eq_true] at hj
      rcases hj with hj | hj
      · exact g2 j (k2 j hj)
      · have := rv_own _ _ _ _ g1
        unfold bxs at this
        rw [if_pos hp] at this
        exact this j hj
    · cases x1
  · obtain ⟨n1, a1, S1, x, g1, g2, g3, g4, g5⟩ := rv_pre hR hu n a S d h1 (sbs_trans sbs_l h2)
    obtain ⟨i, i1, i2⟩ := hE a1 (rv_A hR _ _ _ _ g1) g3 g4
    rcases g5 with ⟨g5, _⟩ | ⟨m, y, g5, g6⟩
    · rw [g5, ht] at g4
      cases g4
    · obtain ⟨z, z1, z2⟩ := mI_ex g5
      obtain ⟨v, v1, v2⟩ := (lw_ls (P := fun d => ∃ n S, rv T R p c n a1 S d ∧ sbs u S)).2 x ⟨n1, S1, g1, g2⟩
      refine ⟨i, v + z, i1, ?_, by omega⟩
      rw [hf i i1, i2, if_pos g4, z1]
      show oa (rDD T R p c u a1) (some z) = _
      rw [show rDD T R p c u a1 = some v from v1, oa_some]
theorem rLL_eq {T : Tw} {R : Nat → Nat → Bool} {p : Nat → Bool} {c N E : Nat} {ea : Nat → Nat} (hR : ∀ a b, R a b = true → isA T a = true ∧ isA T b = true) (hN : N ≠ 0) (hc : p c = false) (hS : ∀ n a S d, rv T R p c n a S d → S < 2 ^ N) (hE : ∀ b, isA T b = true → p (en T b) = true → ∃ i, i < E ∧ ea i = b) (f : Nat → Option Nat) (hf : ∀ i, i < E → f i = oa (rDD T R p c (2 ^ N - 1) (ea i)) (om (tC T R c (ea i)) (2 * nS T))) : rLL T R p c N = om f E := by
  have full : ∀ S, S < 2 ^ N → sbs (2 ^ N - 1) S → S = 2 ^ N - 1 := by
    intro S h1 h2
    apply Nat.eq_of_testBit_eq
    intro j
    rw [Nat.testBit_two_pow_sub_one]
    by_cases hj : j < N
    · rw [decide_eq_true hj]
      refine h2 j ?_
      rw [Nat.testBit_two_pow_sub_one, decide_eq_true hj]
    · rw [decide_eq_false hj]
      exact Nat.testBit_lt_two_pow (Nat.lt_of_lt_of_le h1 (Nat.pow_le_pow_right (by omega) (by omega)))
  have hN0 : 2 ^ N - 1 ≠ 0 := by
    have : 2 ^ 1 ≤ 2 ^ N := Nat.pow_le_pow_right (by omega) (by omega)
    omega
  refine om_eq (fun i d hi hd => ?_) (fun d ⟨n, a, h1, h2⟩ => ?_)
  · rw [hf i hi] at hd
    obtain ⟨x, y, x1, y1, e⟩ := oa_ex hd
    obtain ⟨n, S, k1, k2⟩ := lw_ls.1 x x1
    obtain ⟨l, l1, l2⟩ := om_ls.1 y y1
    unfold tC at l2
    split at l2
    · rename_i hl
      obtain ⟨m, hm⟩ := mI_wi l2
      obtain ⟨n2, S2, g1, g2⟩ := rv_app m n (ea i) S x l y k1 hm
      rw [full S2 (hS _ _ _ _ g1) (sbs_trans k2 g2), ← e] at g1
      exact ⟨n2, l, g1, hl.2⟩
    · cases l2
  · obtain ⟨n1, a1, S1, x, g1, g2, g3, g4, g5⟩ := rv_pre hR hN0 n a _ d h1 sbs_refl
    obtain ⟨i, i1, i2⟩ := hE a1 (rv_A hR _ _ _ _ g1) g3
    rcases g5 with ⟨g5, _⟩ | ⟨m, y, g5, g6⟩
    · rw [g5, h2, hc] at g3
      cases g3
    · have hA := rv_A hR _ _ _ _ h1
      obtain ⟨z, z1, z2⟩ := mI_ex g5
      obtain ⟨v, v1, v2⟩ := (lw_ls (P := fun d => ∃ n S, rv T R p c n a1 S d ∧ sbs (2 ^ N - 1) S)).2 x ⟨n1, S1, g1, g2⟩
      obtain ⟨o, o1, o2⟩ := (om_ls (f := tC T R c a1) (n := 2 * nS T)).2 z ⟨a, isA_lt hA, by unfold tC; rw [if_pos ⟨hA, h2⟩, z1]⟩
      refine ⟨i, v + o, i1, ?_, by omega⟩
      rw [hf i i1, i2, o1]
      show oa (rDD T R p c (2 ^ N - 1) a1) (some o) = _
      rw [show rDD T R p c (2 ^ N - 1) a1 = some v from v1, oa_some]
