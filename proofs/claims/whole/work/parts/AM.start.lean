/-! HOW IT ALL BEGINS -/
def E4 (lo b : Nat) (r s : zS) : Prop := b ≤ gT s ∧ ∀ a, lo ≤ a → a < b → sm r s a
theorem E4_refl {lo b : Nat} {r : zS} (h : b ≤ gT r) : E4 lo b r r := ⟨h, fun _ _ _ => sm_refl⟩
theorem E4_trans {lo b : Nat} {r s t : zS} (h : E4 lo b r s) (g : E4 lo b s t) : E4 lo b r t := ⟨g.1, fun a h1 h2 => sm_trans (h.2 a h1 h2) (g.2 a h1 h2)⟩
theorem E4_w {lo lo2 b b2 : Nat} {r s : zS} (h : E4 lo b r s) (h1 : lo ≤ lo2) (h2 : b2 ≤ b) : E4 lo2 b2 r s := ⟨Nat.le_trans h2 h.1, fun a k1 k2 => h.2 a (by omega) (by omega)⟩
theorem E4_A {lo b : Nat} {r s : zS} {n : Nat} (h : E4 lo b r s) : E4 lo b r (nA s n) := by
  refine ⟨Nat.le_succ_of_le h.1, fun a h1 h2 => sm_trans (h.2 a h1 h2) ?_⟩
  have hb := h.1
  exact ⟨if_neg (by omega), if_neg (by omega), rfl, rfl, rfl, if_neg (by omega), rfl⟩
theorem E4_B {lo b : Nat} {r s : zS} {n : Nat} (h : E4 lo b r s) : E4 lo b r (nB s n) := by
  refine ⟨Nat.le_succ_of_le h.1, fun a h1 h2 => sm_trans (h.2 a h1 h2) ?_⟩
  have hb := h.1
  exact ⟨if_neg (by omega), if_neg (by omega), rfl, rfl, rfl, rfl, if_neg (by omega)⟩
theorem E4_X {lo b : Nat} {r s : zS} (h : E4 lo b r s) : E4 lo b r (nX s) := by
  refine ⟨Nat.le_succ_of_le h.1, fun a h1 h2 => sm_trans (h.2 a h1 h2) ?_⟩
  have hb := h.1
  exact ⟨if_neg (by omega), rfl, rfl, rfl, rfl, rfl, rfl⟩
theorem E4_W {lo b : Nat} {r s : zS} {n m : Nat} (h : E4 lo b r s) : E4 lo b r (nW s n m) := by
  have hb := h.1
  refine ⟨show b ≤ gT s + 1 + n from by omega, fun a h1 h2 => sm_trans (h.2 a h1 h2) ⟨?_, ?_, rfl, rfl, rfl, if_neg (by omega), rfl⟩⟩
  · show (if a = gT s then 3 else if gT s < a ∧ a ≤ gT s + n then 1 else gD s a) = _
    rw [if_neg (by omega), if_neg (by omega)]
  · show (if a = gT s then n else if gT s < a ∧ a ≤ gT s + n then m else gN s a) = _
    rw [if_neg (by omega), if_neg (by omega)]
theorem E4_F {lo b : Nat} {r s : zS} {q c : Nat} {I : Nat → Int32} {J : Nat → Int64} {R : Nat → Nat} (h : E4 lo b r s) (hq : q < lo ∨ b ≤ q) : E4 lo b r (fin s q c I J R) := by
  refine ⟨h.1, fun a h1 h2 => sm_trans (h.2 a h1 h2) ⟨if_neg (by omega), rfl, if_neg (by omega), if_neg (by omega), if_neg (by omega), rfl, rfl⟩⟩
theorem E4_S0 {lo b : Nat} {r s : zS} (h : E4 lo b r s) : E4 lo b r (S_0 s) := E4_F (E4_A (E4_A (E4_A (E4_X h)))) (.inr h.1)
theorem E4_S1 {lo b : Nat} {r s : zS} (h : E4 lo b r s) : E4 lo b r (S_1 s) := E4_F (E4_B (E4_A (E4_A (E4_X h)))) (.inr h.1)
theorem E4_S2 {lo b : Nat} {r s : zS} (h : E4 lo b r s) : E4 lo b r (S_2 s) := E4_F (E4_A (E4_A (E4_A (E4_X h)))) (.inr h.1)
theorem E4_S3 {lo b : Nat} {r s : zS} (h : E4 lo b r s) : E4 lo b r (S_3 s) := E4_F (E4_A (E4_A (E4_A (E4_A (E4_A (E4_X h)))))) (.inr h.1)
theorem E4_S4 {lo b : Nat} {r s : zS} (h : E4 lo b r s) : E4 lo b r (S_4 s) := E4_F (E4_A (E4_X h)) (.inr h.1)
theorem E4_S5 {lo b : Nat} {r s : zS} (h : E4 lo b r s) : E4 lo b r (S_5 s) := E4_F (E4_A (E4_A (E4_X h))) (.inr h.1)
theorem E4_S6 {lo b : Nat} {r s : zS} (h : E4 lo b r s) : E4 lo b r (S_6 s) := E4_F (E4_B (E4_B (E4_B (E4_X h)))) (.inr h.1)
theorem E4_S7 {lo b : Nat} {r s : zS} (h : E4 lo b r s) : E4 lo b r (S_7 s) := E4_F (E4_A (E4_B (E4_A (E4_A (E4_X h))))) (.inr h.1)
theorem E4_S8 {lo b : Nat} {r s : zS} (h : E4 lo b r s) : E4 lo b r (S_8 s) := E4_F (E4_A (E4_B (E4_B (E4_B (E4_B (E4_A (E4_B (E4_B (E4_A (E4_A (E4_A (E4_A (E4_A (E4_X h)))))))))))))) (.inr h.1)
theorem E4_S9 {lo b : Nat} {r s : zS} (h : E4 lo b r s) : E4 lo b r (S_9 s) := E4_F (E4_A (E4_A (E4_A (E4_A (E4_A (E4_A (E4_A (E4_A (E4_A (E4_X h)))))))))) (.inr h.1)
theorem E4_M {lo b : Nat} {r s : zS} (h : E4 lo b r s) : E4 lo b r (M203 s) := E4_B (E4_B (E4_A (E4_A (E4_A (E4_W (E4_A (E4_W (E4_W (E4_A (E4_A (E4_A (E4_A (E4_A (E4_A (E4_W (E4_A (E4_A (E4_W (E4_A (E4_B (E4_B (E4_A (E4_A (E4_W (E4_W (E4_A (E4_A (E4_W (E4_W (E4_W (E4_W (E4_W (E4_W (E4_A (E4_A (E4_A h))))))))))))))))))))))))))))))))))))
theorem O_18 {x : zS} (h : gT x = 18) : LTown (S_8 x) 18 ∧ ((gI (S_8 x) 18 0 = Int32.ofInt 0 ∧ gI (S_8 x) 18 1 = Int32.ofInt 0 ∧ gI (S_8 x) 18 2 = Int32.ofInt 0 ∧ gI (S_8 x) 18 3 = Int32.ofInt 0 ∧ gI (S_8 x) 18 4 = Int32.ofInt 0) ∧ gJ (S_8 x) 18 5 = 0 ∧ gB (S_8 x) 24 = (fun _ => 0) ∧ gB (S_8 x) 25 = (fun _ => 0) ∧ gB (S_8 x) 27 = (fun _ => 0) ∧ gB (S_8 x) 28 = (fun _ => 0)) := by
  obtain ⟨D, N, I, J, R, A, B, T⟩ := x
  have h : T = 18 := h
  subst h
  unfold LTown
  repeat' (first | exact rfl | omega | refine ⟨?_, ?_⟩)
theorem O_32 {x : zS} (h : gT x = 32) : LTown (S_8 x) 32 := by
  obtain ⟨D, N, I, J, R, A, B, T⟩ := x
  have h : T = 32 := h
  subst h
  unfold LTown
  repeat' (first | exact rfl | omega | refine ⟨?_, ?_⟩)
theorem O_46 {x : zS} (h : gT x = 46) : gD (S_4 x) 46 = 8 := by
  obtain ⟨D, N, I, J, R, A, B, T⟩ := x
  have h : T = 46 := h
  subst h
  repeat' (first | exact rfl | omega | refine ⟨?_, ?_⟩)
theorem O_48 {x : zS} (h : gT x = 48) : LChanges (S_0 x) ∧ gI (S_0 x) 48 0 = Int32.ofInt 0 := by
  obtain ⟨D, N, I, J, R, A, B, T⟩ := x
  have h : T = 48 := h
  subst h
  unfold LChanges
  repeat' (first | exact rfl | omega | refine ⟨?_, ?_⟩)
theorem O_52 {x : zS} (h : gT x = 52) : LRules (S_6 x) := by
  obtain ⟨D, N, I, J, R, A, B, T⟩ := x
  have h : T = 52 := h
  subst h
  unfold LRules
  repeat' (first | exact rfl | omega | refine ⟨?_, ?_⟩)
theorem O_56 {x : zS} (h : gT x = 56) : LRoutes (S_5 x) := by
  obtain ⟨D, N, I, J, R, A, B, T⟩ := x
  have h : T = 56 := h
  subst h
  unfold LRoutes
  repeat' (first | exact rfl | omega | refine ⟨?_, ?_⟩)
theorem O_59 {x : zS} (h : gT x = 59) : LChoices (S_1 x) ∧ gI (S_1 x) 59 6 = Int32.ofInt 0 := by
  obtain ⟨D, N, I, J, R, A, B, T⟩ := x
  have h : T = 59 := h
  subst h
  unfold LChoices
  repeat' (first | exact rfl | omega | refine ⟨?_, ?_⟩)
theorem O_63 {x : zS} (h : gT x = 63) : LPost (S_3 x) ∧ gR (S_3 x) 63 0 = 64 ∧ gD (S_3 x) 64 = 1 ∧ gN (S_3 x) 64 = 0 ∧ gR (S_3 x) 63 1 = 65 ∧ gD (S_3 x) 65 = 1 ∧ gN (S_3 x) 65 = 0 := by
  obtain ⟨D, N, I, J, R, A, B, T⟩ := x
  have h : T = 63 := h
  subst h
  unfold LPost
  repeat' (first | exact rfl | omega | refine ⟨?_, ?_⟩)
theorem O_69 {x : zS} (h : gT x = 69) : LTraffic (S_9 x) := by
  obtain ⟨D, N, I, J, R, A, B, T⟩ := x
  have h : T = 69 := h
  subst h
  unfold LTraffic
  repeat' (first | exact rfl | omega | refine ⟨?_, ?_⟩)
theorem O_79 {x : zS} (h : gT x = 79) : LStory (S_7 x) ∧ gI (S_7 x) 79 0 = Int32.ofInt 0 := by
  obtain ⟨D, N, I, J, R, A, B, T⟩ := x
  have h : T = 79 := h
  subst h
  unfold LStory
  repeat' (first | exact rfl | omega | refine ⟨?_, ?_⟩)
theorem O_84 {x : zS} (h : gT x = 84) : LImages (S_2 x) ∧ gI (S_2 x) 84 0 = Int32.ofInt 0 := by
  obtain ⟨D, N, I, J, R, A, B, T⟩ := x
  have h : T = 84 := h
  subst h
  unfold LImages
  repeat' (first | exact rfl | omega | refine ⟨?_, ?_⟩)
def s00 : Ab := ((fun _ => 0, 0, -1), T0, (fun _ => r0), 0, (fun _ => 0, 0), 0, fun _ => 0, fun _ => 0, fun _ _ => 0)
theorem Wv_0 : Wv s00 := ⟨Nat.zero_le _, fun j hj => absurd hj (Nat.not_lt_zero _), trivial, wf_0, Nat.zero_le _, Nat.zero_le _, fun j hj => absurd hj (Nat.not_lt_zero _), Nat.zero_le _, fun k hk => absurd hk (Nat.not_lt_zero _), fun k j _ hj => absurd hj (Nat.not_lt_zero _)⟩
theorem CI_0 {s τ : zS} (hs : gT s = 17) (E : E4 16 88 (N10 s) τ) (hg : 1283 ≤ gT τ) : CI τ 18 s00 := by
  have g0 : gT (nA s 500) = 18 := by
    show gT s + 1 = 18
    omega
  have g1 : gT (S_8 (nA s 500)) = 32 := by
    show gT (nA s 500) + 14 = 32
    rw [g0]
  have g2 : gT (S_8 (S_8 (nA s 500))) = 46 := by
    show gT (S_8 (nA s 500)) + 14 = 46
    rw [g1]
  have g3 : gT (S_4 (S_8 (S_8 (nA s 500)))) = 48 := by
    show gT (S_8 (S_8 (nA s 500))) + 2 = 48
    rw [g2]
  have g4 : gT (S_0 (S_4 (S_8 (S_8 (nA s 500))))) = 52 := by
    show gT (S_4 (S_8 (S_8 (nA s 500)))) + 4 = 52
    rw [g3]
  have g5 : gT (S_6 (S_0 (S_4 (S_8 (S_8 (nA s 500)))))) = 56 := by
    show gT (S_0 (S_4 (S_8 (S_8 (nA s 500))))) + 4 = 56
    rw [g4]
  have g6 : gT (S_5 (S_6 (S_0 (S_4 (S_8 (S_8 (nA s 500))))))) = 59 := by
    show gT (S_6 (S_0 (S_4 (S_8 (S_8 (nA s 500)))))) + 3 = 59
    rw [g5]
  have g7 : gT (S_1 (S_5 (S_6 (S_0 (S_4 (S_8 (S_8 (nA s 500)))))))) = 63 := by
    show gT (S_5 (S_6 (S_0 (S_4 (S_8 (S_8 (nA s 500))))))) + 4 = 63
    rw [g6]
  have g8 : gT (S_3 (S_1 (S_5 (S_6 (S_0 (S_4 (S_8 (S_8 (nA s 500))))))))) = 69 := by
    show gT (S_1 (S_5 (S_6 (S_0 (S_4 (S_8 (S_8 (nA s 500)))))))) + 6 = 69
    rw [g7]
  have g9 : gT (S_9 (S_3 (S_1 (S_5 (S_6 (S_0 (S_4 (S_8 (S_8 (nA s 500)))))))))) = 79 := by
    show gT (S_3 (S_1 (S_5 (S_6 (S_0 (S_4 (S_8 (S_8 (nA s 500))))))))) + 10 = 79
    rw [g8]
  have g10 : gT (S_7 (S_9 (S_3 (S_1 (S_5 (S_6 (S_0 (S_4 (S_8 (S_8 (nA s 500))))))))))) = 84 := by
    show gT (S_9 (S_3 (S_1 (S_5 (S_6 (S_0 (S_4 (S_8 (S_8 (nA s 500)))))))))) + 5 = 84
    rw [g9]
  have g11 : gT (S_2 (S_7 (S_9 (S_3 (S_1 (S_5 (S_6 (S_0 (S_4 (S_8 (S_8 (nA s 500)))))))))))) = 88 := by
    show gT (S_7 (S_9 (S_3 (S_1 (S_5 (S_6 (S_0 (S_4 (S_8 (S_8 (nA s 500))))))))))) + 4 = 88
    rw [g10]
  have c11 : E4 17 88 (S_2 (S_7 (S_9 (S_3 (S_1 (S_5 (S_6 (S_0 (S_4 (S_8 (S_8 (nA s 500)))))))))))) τ := E4_trans (E4_F (E4_refl (by omega)) (.inl (by omega))) (E4_w E (by omega) (Nat.le_refl _))
  have c10 : E4 17 84 (S_7 (S_9 (S_3 (S_1 (S_5 (S_6 (S_0 (S_4 (S_8 (S_8 (nA s 500))))))))))) τ := E4_trans (E4_S2 (E4_refl (by omega))) (E4_w c11 (Nat.le_refl _) (by omega))
  have c9 : E4 17 79 (S_9 (S_3 (S_1 (S_5 (S_6 (S_0 (S_4 (S_8 (S_8 (nA s 500)))))))))) τ := E4_trans (E4_S7 (E4_refl (by omega))) (E4_w c10 (Nat.le_refl _) (by omega))
  have c8 : E4 17 69 (S_3 (S_1 (S_5 (S_6 (S_0 (S_4 (S_8 (S_8 (nA s 500))))))))) τ := E4_trans (E4_S9 (E4_refl (by omega))) (E4_w c9 (Nat.le_refl _) (by omega))
  have c7 : E4 17 63 (S_1 (S_5 (S_6 (S_0 (S_4 (S_8 (S_8 (nA s 500)))))))) τ := E4_trans (E4_S3 (E4_refl (by omega))) (E4_w c8 (Nat.le_refl _) (by omega))
  have c6 : E4 17 59 (S_5 (S_6 (S_0 (S_4 (S_8 (S_8 (nA s 500))))))) τ := E4_trans (E4_S1 (E4_refl (by omega))) (E4_w c7 (Nat.le_refl _) (by omega))
  have c5 : E4 17 56 (S_6 (S_0 (S_4 (S_8 (S_8 (nA s 500)))))) τ := E4_trans (E4_S5 (E4_refl (by omega))) (E4_w c6 (Nat.le_refl _) (by omega))
  have c4 : E4 17 52 (S_0 (S_4 (S_8 (S_8 (nA s 500))))) τ := E4_trans (E4_S6 (E4_refl (by omega))) (E4_w c5 (Nat.le_refl _) (by omega))
  have c3 : E4 17 48 (S_4 (S_8 (S_8 (nA s 500)))) τ := E4_trans (E4_S0 (E4_refl (by omega))) (E4_w c4 (Nat.le_refl _) (by omega))
  have c2 : E4 17 46 (S_8 (S_8 (nA s 500))) τ := E4_trans (E4_S4 (E4_refl (by omega))) (E4_w c3 (Nat.le_refl _) (by omega))
  have c1 : E4 17 32 (S_8 (nA s 500)) τ := E4_trans (E4_S8 (E4_refl (by omega))) (E4_w c2 (Nat.le_refl _) (by omega))
  have c0 : E4 17 18 (nA s 500) τ := E4_trans (E4_S8 (E4_refl (by omega))) (E4_w c1 (Nat.le_refl _) (by omega))
  have o1 := O_18 g0
  have o2 := O_32 g1
  have o3 := O_46 g2
  have o4 := O_48 g3
  have o5 := O_52 g4
  have o6 := O_56 g5
  have o7 := O_59 g6
  have o8 := O_63 g7
  have o9 := O_69 g8
  have o10 := O_79 g9
  have o11 := O_84 g10
  have l18 : LTown τ 18 := by
    have eD : ∀ a, 17 ≤ a → a < 32 → gD τ a = gD (S_8 (nA s 500)) a := fun a h1 h2 => (c1.2 a h1 h2).1
    have eN : ∀ a, 17 ≤ a → a < 32 → gN τ a = gN (S_8 (nA s 500)) a := fun a h1 h2 => (c1.2 a h1 h2).2.1
    have eR : ∀ a, 17 ≤ a → a < 32 → gR τ a = gR (S_8 (nA s 500)) a := fun a h1 h2 => (c1.2 a h1 h2).2.2.2.2.1
    have o := o1.1
    unfold LTown at o ⊢
    simp (disch := omega) only [eD, eN, eR]
    exact o
  have l32 : LTown τ 32 := by
    have eD : ∀ a, 17 ≤ a → a < 46 → gD τ a = gD (S_8 (S_8 (nA s 500))) a := fun a h1 h2 => (c2.2 a h1 h2).1
    have eN : ∀ a, 17 ≤ a → a < 46 → gN τ a = gN (S_8 (S_8 (nA s 500))) a := fun a h1 h2 => (c2.2 a h1 h2).2.1
    have eR : ∀ a, 17 ≤ a → a < 46 → gR τ a = gR (S_8 (S_8 (nA s 500))) a := fun a h1 h2 => (c2.2 a h1 h2).2.2.2.2.1
    have o := o2
    unfold LTown at o ⊢
    simp (disch := omega) only [eD, eN, eR]
    exact o
  have lCh : LChanges τ := by
    have eD : ∀ a, 17 ≤ a → a < 52 → gD τ a = gD (S_0 (S_4 (S_8 (S_8 (nA s 500))))) a := fun a h1 h2 => (c4.2 a h1 h2).1
    have eN : ∀ a, 17 ≤ a → a < 52 → gN τ a = gN (S_0 (S_4 (S_8 (S_8 (nA s 500))))) a := fun a h1 h2 => (c4.2 a h1 h2).2.1
    have eR : ∀ a, 17 ≤ a → a < 52 → gR τ a = gR (S_0 (S_4 (S_8 (S_8 (nA s 500))))) a := fun a h1 h2 => (c4.2 a h1 h2).2.2.2.2.1
    have o := o4.1
    unfold LChanges at o ⊢
    simp (disch := omega) only [eD, eN, eR]
    exact o
  have lRu : LRules τ := by
    have eD : ∀ a, 17 ≤ a → a < 56 → gD τ a = gD (S_6 (S_0 (S_4 (S_8 (S_8 (nA s 500)))))) a := fun a h1 h2 => (c5.2 a h1 h2).1
    have eN : ∀ a, 17 ≤ a → a < 56 → gN τ a = gN (S_6 (S_0 (S_4 (S_8 (S_8 (nA s 500)))))) a := fun a h1 h2 => (c5.2 a h1 h2).2.1
    have eR : ∀ a, 17 ≤ a → a < 56 → gR τ a = gR (S_6 (S_0 (S_4 (S_8 (S_8 (nA s 500)))))) a := fun a h1 h2 => (c5.2 a h1 h2).2.2.2.2.1
    have o := o5
    unfold LRules at o ⊢
    simp (disch := omega) only [eD, eN, eR]
    exact o
  have lRo : LRoutes τ := by
    have eD : ∀ a, 17 ≤ a → a < 59 → gD τ a = gD (S_5 (S_6 (S_0 (S_4 (S_8 (S_8 (nA s 500))))))) a := fun a h1 h2 => (c6.2 a h1 h2).1
    have eN : ∀ a, 17 ≤ a → a < 59 → gN τ a = gN (S_5 (S_6 (S_0 (S_4 (S_8 (S_8 (nA s 500))))))) a := fun a h1 h2 => (c6.2 a h1 h2).2.1
    have eR : ∀ a, 17 ≤ a → a < 59 → gR τ a = gR (S_5 (S_6 (S_0 (S_4 (S_8 (S_8 (nA s 500))))))) a := fun a h1 h2 => (c6.2 a h1 h2).2.2.2.2.1
    have o := o6
    unfold LRoutes at o ⊢
    simp (disch := omega) only [eD, eN, eR]
    exact o
  have lCo : LChoices τ := by
    have eD : ∀ a, 17 ≤ a → a < 63 → gD τ a = gD (S_1 (S_5 (S_6 (S_0 (S_4 (S_8 (S_8 (nA s 500)))))))) a := fun a h1 h2 => (c7.2 a h1 h2).1
    have eN : ∀ a, 17 ≤ a → a < 63 → gN τ a = gN (S_1 (S_5 (S_6 (S_0 (S_4 (S_8 (S_8 (nA s 500)))))))) a := fun a h1 h2 => (c7.2 a h1 h2).2.1
    have eR : ∀ a, 17 ≤ a → a < 63 → gR τ a = gR (S_1 (S_5 (S_6 (S_0 (S_4 (S_8 (S_8 (nA s 500)))))))) a := fun a h1 h2 => (c7.2 a h1 h2).2.2.2.2.1
    have o := o7.1
    unfold LChoices at o ⊢
    simp (disch := omega) only [eD, eN, eR]
    exact o
  have lPo : LPost τ := by
    have eD : ∀ a, 17 ≤ a → a < 69 → gD τ a = gD (S_3 (S_1 (S_5 (S_6 (S_0 (S_4 (S_8 (S_8 (nA s 500))))))))) a := fun a h1 h2 => (c8.2 a h1 h2).1
    have eN : ∀ a, 17 ≤ a → a < 69 → gN τ a = gN (S_3 (S_1 (S_5 (S_6 (S_0 (S_4 (S_8 (S_8 (nA s 500))))))))) a := fun a h1 h2 => (c8.2 a h1 h2).2.1
    have eR : ∀ a, 17 ≤ a → a < 69 → gR τ a = gR (S_3 (S_1 (S_5 (S_6 (S_0 (S_4 (S_8 (S_8 (nA s 500))))))))) a := fun a h1 h2 => (c8.2 a h1 h2).2.2.2.2.1
    have o := o8.1
    unfold LPost at o ⊢
    simp (disch := omega) only [eD, eN, eR]
    exact o
  have lTr : LTraffic τ := by
    have eD : ∀ a, 17 ≤ a → a < 79 → gD τ a = gD (S_9 (S_3 (S_1 (S_5 (S_6 (S_0 (S_4 (S_8 (S_8 (nA s 500)))))))))) a := fun a h1 h2 => (c9.2 a h1 h2).1
    have eN : ∀ a, 17 ≤ a → a < 79 → gN τ a = gN (S_9 (S_3 (S_1 (S_5 (S_6 (S_0 (S_4 (S_8 (S_8 (nA s 500)))))))))) a := fun a h1 h2 => (c9.2 a h1 h2).2.1
    have eR : ∀ a, 17 ≤ a → a < 79 → gR τ a = gR (S_9 (S_3 (S_1 (S_5 (S_6 (S_0 (S_4 (S_8 (S_8 (nA s 500)))))))))) a := fun a h1 h2 => (c9.2 a h1 h2).2.2.2.2.1
    have o := o9
    unfold LTraffic at o ⊢
    simp (disch := omega) only [eD, eN, eR]
    exact o
  have lSt : LStory τ := by
    have eD : ∀ a, 17 ≤ a → a < 84 → gD τ a = gD (S_7 (S_9 (S_3 (S_1 (S_5 (S_6 (S_0 (S_4 (S_8 (S_8 (nA s 500))))))))))) a := fun a h1 h2 => (c10.2 a h1 h2).1
    have eN : ∀ a, 17 ≤ a → a < 84 → gN τ a = gN (S_7 (S_9 (S_3 (S_1 (S_5 (S_6 (S_0 (S_4 (S_8 (S_8 (nA s 500))))))))))) a := fun a h1 h2 => (c10.2 a h1 h2).2.1
    have eR : ∀ a, 17 ≤ a → a < 84 → gR τ a = gR (S_7 (S_9 (S_3 (S_1 (S_5 (S_6 (S_0 (S_4 (S_8 (S_8 (nA s 500))))))))))) a := fun a h1 h2 => (c10.2 a h1 h2).2.2.2.2.1
    have o := o10.1
    unfold LStory at o ⊢
    simp (disch := omega) only [eD, eN, eR]
    exact o
  have lIm : LImages τ := by
    have eD : ∀ a, 17 ≤ a → a < 88 → gD τ a = gD (S_2 (S_7 (S_9 (S_3 (S_1 (S_5 (S_6 (S_0 (S_4 (S_8 (S_8 (nA s 500)))))))))))) a := fun a h1 h2 => (c11.2 a h1 h2).1
    have eN : ∀ a, 17 ≤ a → a < 88 → gN τ a = gN (S_2 (S_7 (S_9 (S_3 (S_1 (S_5 (S_6 (S_0 (S_4 (S_8 (S_8 (nA s 500)))))))))))) a := fun a h1 h2 => (c11.2 a h1 h2).2.1
    have eR : ∀ a, 17 ≤ a → a < 88 → gR τ a = gR (S_2 (S_7 (S_9 (S_3 (S_1 (S_5 (S_6 (S_0 (S_4 (S_8 (S_8 (nA s 500)))))))))))) a := fun a h1 h2 => (c11.2 a h1 h2).2.2.2.2.1
    have o := o11.1
    unfold LImages at o ⊢
    simp (disch := omega) only [eD, eN, eR]
    exact o
  have q16 := E.2 16 (by omega) (by omega)
  have r16 : gR τ 16 = gR (N10 s) 16 := q16.2.2.2.2.1
  have i16 : gI τ 16 = gI (N10 s) 16 := q16.2.2.1
  have f16 : gR (N10 s) 16 = R10 := fin_R
  have k16 : gI (N10 s) 16 = I10 := fin_I
  have lMa : LMain τ := by
    refine ⟨q16.1.trans (show gD (N10 s) 16 = 14 from rfl), ?_, ?_, ?_, ?_, ?_, ?_, ?_, ?_, ?_, ?_, ?_, ?_, ?_⟩
    · rw [(c0.2 17 (by omega) (by omega)).1]
      exact if_pos hs.symm
    · rw [(c0.2 17 (by omega) (by omega)).2.1]
      exact if_pos hs.symm
    · rw [(c3.2 46 (by omega) (by omega)).1]
      exact o3
    all_goals
      rw [r16, f16]
      rfl
  have lA : LA τ := ⟨lMa, l18, l32, lCh, lRu, lRo, lCo, lPo, lTr, lSt, lIm⟩
  obtain ⟨⟨t0, t1, t2, t3, t4⟩, t5, t6, t7, t9, t10⟩ := o1.2
  have eI : ∀ k, gI τ 18 k = gI (S_8 (nA s 500)) 18 k := fun k => by rw [(c1.2 18 (by omega) (by omega)).2.2.1]
  have eJ : gJ τ 18 5 = 0 := by
    rw [(c1.2 18 (by omega) (by omega)).2.2.2.1]
    exact t5
  have b24 : gB τ 24 = fun _ => 0 := (c1.2 24 (by omega) (by omega)).2.2.2.2.2.2.trans t6
  have b25 : gB τ 25 = fun _ => 0 := (c1.2 25 (by omega) (by omega)).2.2.2.2.2.2.trans t7
  have b27 : gB τ 27 = fun _ => 0 := (c1.2 27 (by omega) (by omega)).2.2.2.2.2.2.trans t9
  have b28 : gB τ 28 = fun _ => 0 := (c1.2 28 (by omega) (by omega)).2.2.2.2.2.2.trans t10
  obtain ⟨p1, p2, p3, p4, p5, p6⟩ := o8.2
  have w63 := (c8.2 63 (by omega) (by omega)).2.2.2.2.1
  refine ⟨Wv_0, lA, ⟨⟨l18, .inl rfl, (eI 0).trans t0, (eI 1).trans t1, (eI 2).trans t2, (eI 3).trans t3, fun a => ?_, fun c hc => absurd hc (Nat.not_lt_zero _), fun c hc => absurd hc (Nat.not_lt_zero _), fun c hc => absurd hc (Nat.not_lt_zero _), fun c hc => absurd hc (Nat.not_lt_zero _), fun c hc => absurd hc (Nat.not_lt_zero _), fun c hc => absurd hc (Nat.not_lt_zero _)⟩, ?_, ?_⟩, ⟨fun c hc a => ?_, fun c hc a => ?_, fun c hc => absurd hc (Nat.not_lt_zero _), fun c hc => absurd hc (Nat.not_lt_zero _)⟩, ⟨(eI 4).trans t4, fun c hc => absurd hc (Nat.not_lt_zero _)⟩, ⟨fun a ha j => ?_, fun a ha j => ?_⟩, ⟨?_, fun c hc => absurd hc (Nat.not_lt_zero _)⟩, ⟨?_, Nat.zero_le _, fun c hc => absurd hc (Nat.not_lt_zero _)⟩, ⟨?_, fun c hc => absurd hc (Nat.not_lt_zero _), ?_⟩, ⟨?_, fun c hc => absurd hc (Nat.not_lt_zero _)⟩, ⟨64, 65, lPo, ?_, ?_, ?_, ?_, by omega, ⟨.inl rfl, .inl rfl⟩, by omega, by omega, hg, .inl ?_, .inl ?_⟩, ⟨0, by omega, ?_⟩, hg⟩
  · rw [eJ, bt_0]
    rfl
  · rw [r16, f16]
    rfl
  · rw [r16, f16]
    rfl
  · rw [b27, bt_0]
    rfl
  · rw [b28, bt_0]
    rfl
  · rw [b24, bt_0]
    rfl
  · rw [b25, bt_0]
    rfl
  · rw [(c4.2 48 (by omega) (by omega)).2.2.1]
    exact o4.2
  · rw [(c10.2 79 (by omega) (by omega)).2.2.1]
    exact o10.2
  · rw [i16, k16]
    rfl
  · rw [i16, k16]
    rfl
  · rw [(c11.2 84 (by omega) (by omega)).2.2.1]
    exact o11.2
  · rw [w63]
    exact p1
  · rw [(c8.2 64 (by omega) (by omega)).1]
    exact p2
  · rw [w63]
    exact p4
  · rw [(c8.2 65 (by omega) (by omega)).1]
    exact p5
  · rw [(c8.2 64 (by omega) (by omega)).2.1]
    exact p3
  · rw [(c8.2 65 (by omega) (by omega)).2.1]
    exact p6
  · rw [(c7.2 59 (by omega) (by omega)).2.2.1]
    exact o7.2
