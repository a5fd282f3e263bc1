/-! BOTH SIDES: what each leaves of the other -/
theorem LM_sm {σ τ : zS} (h : LM σ) (e : ∀ a, 88 ≤ a → a < 1282 → sm σ τ a) : LM τ := by
  have eD : ∀ a, 88 ≤ a → a < 1282 → gD τ a = gD σ a := fun a h1 h2 => (e a h1 h2).1
  have eN : ∀ a, 88 ≤ a → a < 1282 → gN τ a = gN σ a := fun a h1 h2 => (e a h1 h2).2.1
  have eR : gR τ 88 = gR σ 88 := (e 88 (by omega) (by omega)).2.2.2.2.1
  exact ⟨by rw [eD 88 (by omega) (by omega)]; exact LM_d h, by rw [eR]; exact LM_r8 h, by rw [eD 89 (by omega) (by omega)]; exact LM_k8 h, by rw [eN 89 (by omega) (by omega)]; exact LM_n8 h, by rw [eR]; exact LM_r9 h, by rw [eD 90 (by omega) (by omega)]; exact LM_k9 h, by rw [eN 90 (by omega) (by omega)]; exact LM_n9 h, by rw [eR]; exact LM_r10 h, by rw [eD 91 (by omega) (by omega)]; exact LM_k10 h, by rw [eN 91 (by omega) (by omega)]; exact LM_n10 h, by rw [eR]; exact LM_r11 h, by rw [eD 92 (by omega) (by omega)]; exact LM_k11 h, by rw [eN 92 (by omega) (by omega)]; exact LM_n11 h, fun j hj => by rw [eD (93 + j) (by omega) (by omega)]; exact LM_p11 h j hj, fun j hj => by rw [eN (93 + j) (by omega) (by omega)]; exact LM_q11 h j hj, by rw [eR]; exact LM_r12 h, by rw [eD 109 (by omega) (by omega)]; exact LM_k12 h, by rw [eN 109 (by omega) (by omega)]; exact LM_n12 h, fun j hj => by rw [eD (110 + j) (by omega) (by omega)]; exact LM_p12 h j hj, fun j hj => by rw [eN (110 + j) (by omega) (by omega)]; exact LM_q12 h j hj, by rw [eR]; exact LM_r13 h, by rw [eD 126 (by omega) (by omega)]; exact LM_k13 h, by rw [eN 126 (by omega) (by omega)]; exact LM_n13 h, fun j hj => by rw [eD (127 + j) (by omega) (by omega)]; exact LM_p13 h j hj, fun j hj => by rw [eN (127 + j) (by omega) (by omega)]; exact LM_q13 h j hj, by rw [eR]; exact LM_r14 h, by rw [eD 151 (by omega) (by omega)]; exact LM_k14 h, by rw [eN 151 (by omega) (by omega)]; exact LM_n14 h, fun j hj => by rw [eD (152 + j) (by omega) (by omega)]; exact LM_p14 h j hj, fun j hj => by rw [eN (152 + j) (by omega) (by omega)]; exact LM_q14 h j hj, by rw [eR]; exact LM_r15 h, by rw [eD 176 (by omega) (by omega)]; exact LM_k15 h, by rw [eN 176 (by omega) (by omega)]; exact LM_n15 h, fun j hj => by rw [eD (177 + j) (by omega) (by omega)]; exact LM_p15 h j hj, fun j hj => by rw [eN (177 + j) (by omega) (by omega)]; exact LM_q15 h j hj, by rw [eR]; exact LM_r16 h, by rw [eD 189 (by omega) (by omega)]; exact LM_k16 h, by rw [eN 189 (by omega) (by omega)]; exact LM_n16 h, fun j hj => by rw [eD (190 + j) (by omega) (by omega)]; exact LM_p16 h j hj, fun j hj => by rw [eN (190 + j) (by omega) (by omega)]; exact LM_q16 h j hj, by rw [eR]; exact LM_r17 h, by rw [eD 202 (by omega) (by omega)]; exact LM_k17 h, by rw [eN 202 (by omega) (by omega)]; exact LM_n17 h, by rw [eR]; exact LM_r18 h, by rw [eD 203 (by omega) (by omega)]; exact LM_k18 h, by rw [eN 203 (by omega) (by omega)]; exact LM_n18 h, by rw [eR]; exact LM_r20 h, by rw [eD 204 (by omega) (by omega)]; exact LM_k20 h, by rw [eN 204 (by omega) (by omega)]; exact LM_n20 h, fun j hj => by rw [eD (205 + j) (by omega) (by omega)]; exact LM_p20 h j hj, fun j hj => by rw [eN (205 + j) (by omega) (by omega)]; exact LM_q20 h j hj, by rw [eR]; exact LM_r21 h, by rw [eD 406 (by omega) (by omega)]; exact LM_k21 h, by rw [eN 406 (by omega) (by omega)]; exact LM_n21 h, fun j hj => by rw [eD (407 + j) (by omega) (by omega)]; exact LM_p21 h j hj, fun j hj => by rw [eN (407 + j) (by omega) (by omega)]; exact LM_q21 h j hj, by rw [eR]; exact LM_r22 h, by rw [eD 608 (by omega) (by omega)]; exact LM_k22 h, by rw [eN 608 (by omega) (by omega)]; exact LM_n22 h, by rw [eR]; exact LM_r23 h, by rw [eD 609 (by omega) (by omega)]; exact LM_k23 h, by rw [eN 609 (by omega) (by omega)]; exact LM_n23 h, by rw [eR]; exact LM_r24 h, by rw [eD 610 (by omega) (by omega)]; exact LM_k24 h, by rw [eN 610 (by omega) (by omega)]; exact LM_n24 h, by rw [eR]; exact LM_r25 h, by rw [eD 611 (by omega) (by omega)]; exact LM_k25 h, by rw [eN 611 (by omega) (by omega)]; exact LM_n25 h, by rw [eR]; exact LM_r26 h, by rw [eD 612 (by omega) (by omega)]; exact LM_k26 h, by rw [eN 612 (by omega) (by omega)]; exact LM_n26 h, by rw [eR]; exact LM_r30 h, by rw [eD 613 (by omega) (by omega)]; exact LM_k30 h, by rw [eN 613 (by omega) (by omega)]; exact LM_n30 h, fun j hj => by rw [eD (614 + j) (by omega) (by omega)]; exact LM_p30 h j hj, fun j hj => by rw [eN (614 + j) (by omega) (by omega)]; exact LM_q30 h j hj, by rw [eR]; exact LM_r31 h, by rw [eD 1190 (by omega) (by omega)]; exact LM_k31 h, by rw [eN 1190 (by omega) (by omega)]; exact LM_n31 h, by rw [eR]; exact LM_r32 h, by rw [eD 1191 (by omega) (by omega)]; exact LM_k32 h, by rw [eN 1191 (by omega) (by omega)]; exact LM_n32 h, by rw [eR]; exact LM_r36 h, by rw [eD 1192 (by omega) (by omega)]; exact LM_k36 h, by rw [eN 1192 (by omega) (by omega)]; exact LM_n36 h, fun j hj => by rw [eD (1193 + j) (by omega) (by omega)]; exact LM_p36 h j hj, fun j hj => by rw [eN (1193 + j) (by omega) (by omega)]; exact LM_q36 h j hj, by rw [eR]; exact LM_r37 h, by rw [eD 1205 (by omega) (by omega)]; exact LM_k37 h, by rw [eN 1205 (by omega) (by omega)]; exact LM_n37 h, by rw [eR]; exact LM_r38 h, by rw [eD 1206 (by omega) (by omega)]; exact LM_k38 h, by rw [eN 1206 (by omega) (by omega)]; exact LM_n38 h, by rw [eR]; exact LM_r39 h, by rw [eD 1207 (by omega) (by omega)]; exact LM_k39 h, by rw [eN 1207 (by omega) (by omega)]; exact LM_n39 h, by rw [eR]; exact LM_r40 h, by rw [eD 1208 (by omega) (by omega)]; exact LM_k40 h, by rw [eN 1208 (by omega) (by omega)]; exact LM_n40 h, by rw [eR]; exact LM_r41 h, by rw [eD 1209 (by omega) (by omega)]; exact LM_k41 h, by rw [eN 1209 (by omega) (by omega)]; exact LM_n41 h, by rw [eR]; exact LM_r42 h, by rw [eD 1210 (by omega) (by omega)]; exact LM_k42 h, by rw [eN 1210 (by omega) (by omega)]; exact LM_n42 h, by rw [eR]; exact LM_r44 h, by rw [eD 1211 (by omega) (by omega)]; exact LM_k44 h, by rw [eN 1211 (by omega) (by omega)]; exact LM_n44 h, fun j hj => by rw [eD (1212 + j) (by omega) (by omega)]; exact LM_p44 h j hj, fun j hj => by rw [eN (1212 + j) (by omega) (by omega)]; exact LM_q44 h j hj, by rw [eR]; exact LM_r46 h, by rw [eD 1215 (by omega) (by omega)]; exact LM_k46 h, by rw [eN 1215 (by omega) (by omega)]; exact LM_n46 h, fun j hj => by rw [eD (1216 + j) (by omega) (by omega)]; exact LM_p46 h j hj, fun j hj => by rw [eN (1216 + j) (by omega) (by omega)]; exact LM_q46 h j hj, by rw [eR]; exact LM_r47 h, by rw [eD 1264 (by omega) (by omega)]; exact LM_k47 h, by rw [eN 1264 (by omega) (by omega)]; exact LM_n47 h, by rw [eR]; exact LM_r48 h, by rw [eD 1265 (by omega) (by omega)]; exact LM_k48 h, by rw [eN 1265 (by omega) (by omega)]; exact LM_n48 h, fun j hj => by rw [eD (1266 + j) (by omega) (by omega)]; exact LM_p48 h j hj, fun j hj => by rw [eN (1266 + j) (by omega) (by omega)]; exact LM_q48 h j hj, by rw [eR]; exact LM_r49 h, by rw [eD 1277 (by omega) (by omega)]; exact LM_k49 h, by rw [eN 1277 (by omega) (by omega)]; exact LM_n49 h, by rw [eR]; exact LM_r50 h, by rw [eD 1278 (by omega) (by omega)]; exact LM_k50 h, by rw [eN 1278 (by omega) (by omega)]; exact LM_n50 h, by rw [eR]; exact LM_r51 h, by rw [eD 1279 (by omega) (by omega)]; exact LM_k51 h, by rw [eN 1279 (by omega) (by omega)]; exact LM_n51 h, by rw [eR]; exact LM_r52 h, by rw [eD 1280 (by omega) (by omega)]; exact LM_k52 h, by rw [eN 1280 (by omega) (by omega)]; exact LM_n52 h, by rw [eR]; exact LM_r53 h, by rw [eD 1281 (by omega) (by omega)]; exact LM_k53 h, by rw [eN 1281 (by omega) (by omega)]; exact LM_n53 h⟩
theorem MI_sm {σ τ : zS} {s : Ab} (e : ∀ a, 88 ≤ a → a < 1282 → sm σ τ a) (hg : 1283 ≤ gT τ) (h : MI σ s) : MI τ s := by
  have hw := MI_w h
  have hn2 := MI_n2 h
  have hnl := nL_le hw
  have hK := (MI_v h).2.2.2.2.2.2.2.1
  have eI : gI τ 88 = gI σ 88 := (e 88 (by omega) (by omega)).2.2.1
  have eA : ∀ a, 88 ≤ a → a < 1282 → gA τ a = gA σ a := fun a h1 h2 => (e a h1 h2).2.2.2.2.2.1
  refine ⟨MI_v h, MT_eq (MI_T h) hw (LM_sm (MI_L h) e) (fun a h1 h2 => eA a (by omega) (by omega)), ⟨by rw [eI]; exact (MI_F h).1, fun k hk => by rw [eA (614 + k) (by omega) (by omega)]; exact (MI_F h).2 k hk⟩, ⟨by rw [eI]; exact (MI_H h).1, fun w hw => by rw [eA (205 + w) (by omega) (by omega), eA (407 + w) (by omega) (by omega)]; exact (MI_H h).2 w hw⟩, ⟨by rw [eI]; exact (MI_U h).1, fun j hj => by rw [eA 1190 (by omega) (by omega)]; exact (MI_U h).2 j hj⟩, ⟨by rw [eI]; exact (MI_M h).1, fun k hk => by rw [eA (1212 + k) (by omega) (by omega)]; exact (MI_M h).2 k hk⟩, ⟨by rw [eI]; exact (MI_D h).1, fun j hj => by rw [eA 89 (by omega) (by omega)]; exact (MI_D h).2.1 j hj, by rw [eI]; exact (MI_D h).2.2⟩, by rw [eI]; exact MI_b h, hg⟩
theorem MI_fw {σ τ : zS} {s : Ab} (f : fw 16 88 σ τ) (h : MI σ s) : MI τ s := MI_sm (fun a h1 h2 => f.2 a (by omega) (by omega)) (Nat.le_trans (MI_g h) f.1) h
theorem MI_oc {σ : zS} {s : Ab} {x : Int64} (h : MI σ s) : MI (oc σ x) s := MI_sm (fun a h1 h2 => sm_sB (by omega)) (MI_g h) h
theorem CI_low {σ τ : zS} {t : Nat} {s : Ab} (e : ∀ a, a < 88 → sm σ τ a) (hg : gT σ ≤ gT τ) (hp : ∀ a, 1283 ≤ a → a < gT σ → gD τ a = gD σ a ∧ gN τ a = gN σ a) (h : CI σ t s) : CI τ t s := by
  have ht := CI_t h
  have eD : ∀ a, a < 88 → gD τ a = gD σ a := fun a ha => (e a ha).1
  have eN : ∀ a, a < 88 → gN τ a = gN σ a := fun a ha => (e a ha).2.1
  have eI : ∀ a, a < 88 → gI τ a = gI σ a := fun a ha => (e a ha).2.2.1
  have eR : ∀ a, a < 88 → gR τ a = gR σ a := fun a ha => (e a ha).2.2.2.2.1
  have eA : ∀ a, a < 88 → gA τ a = gA σ a := fun a ha => (e a ha).2.2.2.2.2.1
  have eB : ∀ a, a < 88 → gB τ a = gB σ a := fun a ha => (e a ha).2.2.2.2.2.2
  have hA : LA τ := by
    obtain ⟨g1, g2, g3, g4, g5, g6, g7, g8, g9, g10, g11⟩ := CI_A h
    refine ⟨?_, ?_, ?_, ?_, ?_, ?_, ?_, ?_, ?_, ?_, ?_⟩
    · unfold LMain at g1 ⊢
      simp (disch := omega) only [eD, eN, eR]
      exact g1
    · unfold LTown at g2 ⊢
      simp (disch := omega) only [eD, eN, eR]
      exact g2
    · unfold LTown at g3 ⊢
      simp (disch := omega) only [eD, eN, eR]
      exact g3
    · unfold LChanges at g4 ⊢
      simp (disch := omega) only [eD, eN, eR]
      exact g4
    · unfold LRules at g5 ⊢
      simp (disch := omega) only [eD, eN, eR]
      exact g5
    · unfold LRoutes at g6 ⊢
      simp (disch := omega) only [eD, eN, eR]
      exact g6
    · unfold LChoices at g7 ⊢
      simp (disch := omega) only [eD, eN, eR]
      exact g7
    · unfold LPost at g8 ⊢
      simp (disch := omega) only [eD, eN, eR]
      exact g8
    · unfold LTraffic at g9 ⊢
      simp (disch := omega) only [eD, eN, eR]
      exact g9
    · unfold LStory at g10 ⊢
      simp (disch := omega) only [eD, eN, eR]
      exact g10
    · unfold LImages at g11 ⊢
      simp (disch := omega) only [eD, eN, eR]
      exact g11
  have hP : ∃ p b, PS τ p b := by
    obtain ⟨p, b, q1, q2, q3, q4, q5, q6, ⟨q7, q8⟩, q9, q10, q11, q12, q13⟩ := CI_p h
    have ep : gD τ p = gD σ p ∧ gN τ p = gN σ p := by
      rcases q7 with z | z
      · exact ⟨eD p (by omega), eN p (by omega)⟩
      · exact hp p z q9
    have eb : gD τ b = gD σ b ∧ gN τ b = gN σ b := by
      rcases q8 with z | z
      · exact ⟨eD b (by omega), eN b (by omega)⟩
      · exact hp b z q10
    refine ⟨p, b, hA.2.2.2.2.2.2.2.1, by rw [eR 63 (by omega)]; exact q2, by rw [ep.1]; exact q3, by rw [eR 63 (by omega)]; exact q4, by rw [eb.1]; exact q5, q6, ⟨q7, q8⟩, by omega, by omega, by omega, by rw [ep.2]; exact q12, by rw [eb.2]; exact q13⟩
  refine ⟨CI_v h, hA, ⟨CT_sm (CI_T h) (fun k hk => e _ (by omega)), ?_, ?_⟩, CS_sm (CI_S h) (fun k hk => e _ (by omega)), ?_, ?_, ⟨?_, ?_⟩, ?_, ⟨?_, ?_, ?_⟩, ?_, hP, ?_, ?_⟩
  · rw [eR 16 (by omega)]
    exact CI_3 h
  · rw [eR 16 (by omega)]
    exact CI_4 h
  · have := CI_l h
    unfold CLf at this ⊢
    rw [eI t (by omega), eA (t + 13) (by omega)]
    exact this
  · have := CI_H h
    unfold CH at this ⊢
    rw [eB (t + 6) (by omega), eB (t + 7) (by omega)]
    exact this
  · rw [eI 48 (by omega)]
    exact CI_n h
  · have := CI_L h
    unfold CL at this ⊢
    rw [eA 49 (by omega), eA 50 (by omega), eA 51 (by omega)]
    exact this
  · have := CI_U h
    unfold CU at this ⊢
    rw [eI 79 (by omega), eA 80 (by omega)]
    exact this
  · rw [eI 16 (by omega)]
    exact CI_N h
  · rw [eA 17 (by omega)]
    exact CI_F h
  · rw [eI 16 (by omega)]
    exact CI_P h
  · have := CI_M h
    unfold CM at this ⊢
    rw [eI 84 (by omega), eA 85 (by omega), eA 86 (by omega), eA 87 (by omega)]
    exact this
  · rw [eI 59 (by omega)]
    exact CI_q h
  · have := CI_g h
    omega
theorem CI_fM {σ τ : zS} {t : Nat} {s : Ab} (f : fM σ τ) (h : CI σ t s) : CI τ t s := CI_low (fun a ha => f.2 a (by have := CI_g h; omega) (.inl ha)) f.1 (fun a h1 h2 => ⟨(f.2 a h2 (.inr (by omega))).1, (f.2 a h2 (.inr (by omega))).2.1⟩) h
theorem CI_oc {σ : zS} {t : Nat} {s : Ab} {x : Int64} (h : CI σ t s) : CI (oc σ x) t s := CI_low (fun a ha => sm_sB (by omega)) (Nat.le_refl _) (fun a _ _ => ⟨rfl, rfl⟩) h
/-- between two calls: both objects hold the same state, the script is there -/
def LW (σ : zS) (t : Nat) (s : Ab) (N : Nat) : Prop := CI σ t s ∧ MI σ s ∧ (gD σ 1282 = 2 ∧ gN σ 1282 = 1) ∧ gD σ 0 = 1 ∧ gN σ 0 = N
/-- the class has answered: the reference is yet to -/
def LX (σ τ : zS) (t : Nat) (s s2 : Ab) (N : Nat) : Prop := CI τ t s2 ∧ MI τ s ∧ (gD τ 1282 = 2 ∧ gN τ 1282 = 1) ∧ (gD τ 0 = 1 ∧ gN τ 0 = N) ∧ gA τ 0 = gA σ 0
theorem LX_of {σ τ : zS} {t t2 N : Nat} {s s2 : Ab} (h : LW σ t s N) (f : fw 16 88 σ τ) (hC : CI τ t2 s2) : LX σ τ t2 s s2 N := by
  have z := f.2 0 (by omega) (by omega)
  exact ⟨hC, MI_fw f h.2.1, fw_o f h.2.2.1, ⟨z.1.trans h.2.2.2.1, z.2.1.trans h.2.2.2.2⟩, z.2.2.2.2.2.1⟩
theorem LX_oc {σ τ : zS} {t N : Nat} {s s2 : Ab} {x : Int64} (h : LX σ τ t s s2 N) : LX σ (oc τ x) t s s2 N := ⟨CI_oc h.1, MI_oc h.2.1, h.2.2.1, h.2.2.2.1, h.2.2.2.2⟩
theorem LX_W {σ τ ρ : zS} {t N : Nat} {s s2 : Ab} (h : LX σ τ t s s2 N) (f : fM τ ρ) (hM : MI ρ s2) : LW ρ t s2 N ∧ gB ρ 1282 = gB τ 1282 := by
  have hg := CI_g h.1
  have z := f.2 0 (by omega) (by omega)
  have y := f.2 1282 (by omega) (by omega)
  exact ⟨⟨CI_fM f h.1, hM, ⟨y.1.trans h.2.2.1.1, y.2.1.trans h.2.2.1.2⟩, z.1.trans h.2.2.2.1.1, z.2.1.trans h.2.2.2.1.2⟩, y.2.2.2.2.2.2⟩
theorem oc_0 {σ : zS} {x : Int64} : gB (oc σ x) 1282 0 = x := by
  unfold oc
  rw [gB_self]
  rfl
theorem toi (a : Int32) : ∃ x : Int, a = Int32.ofInt x ∧ -2147483648 ≤ x ∧ x < 2147483648 := ⟨a.toInt, (Int32.ofInt_toInt a).symm, by have := Int32.le_toInt a; omega, by have := Int32.toInt_lt a; omega⟩
