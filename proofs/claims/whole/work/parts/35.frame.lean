/-! FRAMES: what a method leaves as it was; the object's layout as a whole -/
def fz (lo hi : Nat) (σ τ : zS) : Prop := gD τ = gD σ ∧ gN τ = gN σ ∧ gR τ = gR σ ∧ gT τ = gT σ ∧ ∀ a, a < lo ∨ hi ≤ a → gI τ a = gI σ a ∧ gJ τ a = gJ σ a ∧ gA τ a = gA σ a ∧ gB τ a = gB σ a
theorem fz_refl {lo hi : Nat} {σ : zS} : fz lo hi σ σ := ⟨rfl, rfl, rfl, rfl, fun _ _ => ⟨rfl, rfl, rfl, rfl⟩⟩
theorem fz_trans {lo hi : Nat} {σ τ ρ : zS} (h : fz lo hi σ τ) (g : fz lo hi τ ρ) : fz lo hi σ ρ := ⟨g.1.trans h.1, g.2.1.trans h.2.1, g.2.2.1.trans h.2.2.1, g.2.2.2.1.trans h.2.2.2.1, fun a ha => ⟨(g.2.2.2.2 a ha).1.trans (h.2.2.2.2 a ha).1, (g.2.2.2.2 a ha).2.1.trans (h.2.2.2.2 a ha).2.1, (g.2.2.2.2 a ha).2.2.1.trans (h.2.2.2.2 a ha).2.2.1, (g.2.2.2.2 a ha).2.2.2.trans (h.2.2.2.2 a ha).2.2.2⟩⟩
theorem fz_wide {lo hi lo2 hi2 : Nat} {σ τ : zS} (h : fz lo hi σ τ) (h1 : lo2 ≤ lo) (h2 : hi ≤ hi2) : fz lo2 hi2 σ τ := ⟨h.1, h.2.1, h.2.2.1, h.2.2.2.1, fun a ha => h.2.2.2.2 a (by omega)⟩
theorem fz_sA {lo hi q : Nat} {σ : zS} {f : Nat → Int32} (h : lo ≤ q ∧ q < hi) : fz lo hi σ (sA σ q f) := ⟨rfl, rfl, rfl, rfl, fun a ha => ⟨rfl, rfl, if_neg (by omega), rfl⟩⟩
theorem fz_sB {lo hi q : Nat} {σ : zS} {f : Nat → Int64} (h : lo ≤ q ∧ q < hi) : fz lo hi σ (sB σ q f) := ⟨rfl, rfl, rfl, rfl, fun a ha => ⟨rfl, rfl, rfl, if_neg (by omega)⟩⟩
theorem fz_sI {lo hi q k : Nat} {σ : zS} {x : Int32} (h : lo ≤ q ∧ q < hi) : fz lo hi σ (sI σ q k x) := ⟨rfl, rfl, rfl, rfl, fun a ha => ⟨funext (fun j => if_neg (fun z => by omega)), rfl, rfl, rfl⟩⟩
theorem fz_sJ {lo hi q k : Nat} {σ : zS} {x : Int64} (h : lo ≤ q ∧ q < hi) : fz lo hi σ (sJ σ q k x) := ⟨rfl, rfl, rfl, rfl, fun a ha => ⟨rfl, funext (fun j => if_neg (fun z => by omega)), rfl, rfl⟩⟩
theorem fz_sm {lo hi : Nat} {σ τ : zS} (h : fz lo hi σ τ) {a : Nat} (ha : a < lo ∨ hi ≤ a) : sm σ τ a := by
  obtain ⟨h1, h2, h3, h4, h5⟩ := h
  obtain ⟨e1, e2, e3, e4⟩ := h5 a ha
  exact ⟨by rw [h1], by rw [h2], e1, e2, by rw [h3], e3, e4⟩
theorem fz_I {lo hi : Nat} {σ τ : zS} (h : fz lo hi σ τ) {a : Nat} (ha : a < lo ∨ hi ≤ a) : gI τ a = gI σ a := (h.2.2.2.2 a ha).1
theorem fz_J {lo hi : Nat} {σ τ : zS} (h : fz lo hi σ τ) {a : Nat} (ha : a < lo ∨ hi ≤ a) : gJ τ a = gJ σ a := (h.2.2.2.2 a ha).2.1
theorem fz_A {lo hi : Nat} {σ τ : zS} (h : fz lo hi σ τ) {a : Nat} (ha : a < lo ∨ hi ≤ a) : gA τ a = gA σ a := (h.2.2.2.2 a ha).2.2.1
theorem fz_B {lo hi : Nat} {σ τ : zS} (h : fz lo hi σ τ) {a : Nat} (ha : a < lo ∨ hi ≤ a) : gB τ a = gB σ a := (h.2.2.2.2 a ha).2.2.2
def LA (σ : zS) : Prop := LMain σ ∧ LTown σ 18 ∧ LTown σ 32 ∧ LChanges σ ∧ LRules σ ∧ LRoutes σ ∧ LChoices σ ∧ LPost σ ∧ LTraffic σ ∧ LStory σ ∧ LImages σ
theorem LA_Main {σ : zS} (h : LA σ) : LMain σ := h.1
theorem LA_Changes {σ : zS} (h : LA σ) : LChanges σ := h.2.2.2.1
theorem LA_Rules {σ : zS} (h : LA σ) : LRules σ := h.2.2.2.2.1
theorem LA_Routes {σ : zS} (h : LA σ) : LRoutes σ := h.2.2.2.2.2.1
theorem LA_Choices {σ : zS} (h : LA σ) : LChoices σ := h.2.2.2.2.2.2.1
theorem LA_Post {σ : zS} (h : LA σ) : LPost σ := h.2.2.2.2.2.2.2.1
theorem LA_Traffic {σ : zS} (h : LA σ) : LTraffic σ := h.2.2.2.2.2.2.2.2.1
theorem LA_Story {σ : zS} (h : LA σ) : LStory σ := h.2.2.2.2.2.2.2.2.2.1
theorem LA_Images {σ : zS} (h : LA σ) : LImages σ := h.2.2.2.2.2.2.2.2.2.2
theorem LA_fz {lo hi : Nat} {σ τ : zS} (f : fz lo hi σ τ) (h : LA σ) : LA τ := by
  unfold LA LMain LTown LChanges LRules LRoutes LChoices LPost LTraffic LStory LImages at h ⊢
  rw [f.1, f.2.1, f.2.2.1]
  exact h
theorem CT_fz {lo hi t : Nat} {σ τ : zS} {T : Tw} (f : fz lo hi σ τ) (hlo : 46 ≤ lo) (h : CT σ t T) : CT τ t T := CT_sm h (fun k hk => fz_sm f (by have := CT_t h; omega))
theorem CS_fz {lo hi t : Nat} {σ τ : zS} {T : Tw} (f : fz lo hi σ τ) (hlo : 46 ≤ lo) (ht : t = 18 ∨ t = 32) (h : CS σ t T) : CS τ t T := CS_sm h (fun k hk => fz_sm f (by omega))
/-! numbers of those that: the i-th -/
noncomputable def nt (p : Nat → Bool) (i : Nat) : Nat := fr 0 (lw (fun k => p k = true ∧ cp p k = i))
theorem cp_le2 {p : Nat → Bool} {m n : Nat} (h : m ≤ n) : cp p m ≤ cp p n := by
  obtain ⟨d, rfl⟩ : ∃ d, n = m + d := ⟨n - m, by omega⟩
  induction d with
  | zero => exact Nat.le_refl _
  | succ d ih =>
    have := ih (by omega)
    show cp p m ≤ cp p (m + d) + _
    omega
theorem cp_t {p : Nat → Bool} {n : Nat} (h : p n = true) : cp p (n + 1) = cp p n + 1 := by
  show cp p n + _ = _
  rw [h]
  rfl
theorem cp_f {p : Nat → Bool} {n : Nat} (h : p n = false) : cp p (n + 1) = cp p n := by
  show cp p n + _ = _
  rw [h]
  rfl
theorem cp_inj {p : Nat → Bool} {j k : Nat} (hj : p j = true) (hk : p k = true) (h : cp p j = cp p k) : j = k := by
  rcases Nat.lt_trichotomy j k with h1 | h1 | h1
  · have := cp_le2 (p := p) (show j + 1 ≤ k from h1)
    rw [cp_t hj] at this
    omega
  · exact h1
  · have := cp_le2 (p := p) (show k + 1 ≤ j from h1)
    rw [cp_t hk] at this
    omega
theorem nt_cp {p : Nat → Bool} {k : Nat} (h : p k = true) : nt p (cp p k) = k := by
  unfold nt
  have e : lw (fun j => p j = true ∧ cp p j = cp p k) = some k := lw_some.2 ⟨⟨h, rfl⟩, fun m hm z => by have := cp_inj z.1 h z.2; omega⟩
  rw [e]
  rfl
theorem nt_ok {p : Nat → Bool} {i : Nat} : ∀ n, i < cp p n → nt p i < n ∧ p (nt p i) = true ∧ cp p (nt p i) = i := by
  intro n
  induction n with
  | zero =>
    intro h
    exact absurd h (Nat.not_lt_zero _)
  | succ n ih =>
    intro h
    by_cases h1 : i < cp p n
    · obtain ⟨a, b, c⟩ := ih h1
      exact ⟨by omega, b, c⟩
    · cases e : p n with
      | false =>
        rw [cp_f e] at h
        exact absurd h h1
      | true =>
        rw [cp_t e] at h
        have e2 : cp p n = i := by omega
        rw [← e2, nt_cp e]
        exact ⟨by omega, e, rfl⟩
theorem cp_add {p : Nat → Bool} {a : Nat} : ∀ b, cp p (a + b) = cp p a + cp (fun j => p (a + j)) b
  | 0 => rfl
  | b + 1 => by
    show cp p (a + b) + (p (a + b)).toNat = cp p a + (cp (fun j => p (a + j)) b + (p (a + b)).toNat)
    rw [cp_add b, Nat.add_assoc]
theorem cp_lt {p : Nat → Bool} {n i : Nat} (hi : i < n) (h : p i = false) : cp p n + 1 ≤ n := by
  have := cp_one (q := fun _ => true) hi rfl h (fun _ _ _ => rfl)
  have := cp_le (p := fun _ => true) n
  omega
/-! LEFT TURNS -/
noncomputable def lT (T : Tw) (s u : Nat) : Bool := cB (∃ a b, isA T a = true ∧ isA T b = true ∧ a / 2 = s ∧ b / 2 = u ∧ tu T a b = 3)
noncomputable def lp (T : Tw) (j : Nat) : Bool := lT T (j / nS T) (j % nS T)
noncomputable def nL (T : Tw) : Nat := cp (lp T) (nS T * nS T)
noncomputable def lS (T : Tw) (k : Nat) : Nat := nt (lp T) k / nS T
noncomputable def lU (T : Tw) (k : Nat) : Nat := nt (lp T) k % nS T
theorem tu3 {T : Tw} {a b : Nat} (h : tu T a b = 3) : a / 2 ≠ b / 2 ∧ en T a = bg T b := by
  unfold tu at h
  by_cases h1 : en T a ≠ bg T b
  · rw [if_pos h1] at h
    omega
  · rw [if_neg h1] at h
    refine ⟨fun h2 => ?_, Classical.not_not.1 h1⟩
    rw [if_pos h2] at h
    omega
theorem lq_ok {T : Tw} {k : Nat} (hk : k < nL T) : lS T k < nS T ∧ lU T k < nS T ∧ lT T (lS T k) (lU T k) = true ∧ cp (lp T) (lS T k * nS T + lU T k) = k := by
  obtain ⟨h1, h2, h3⟩ := nt_ok _ hk
  have hp : 0 < nS T := by
    apply Nat.pos_of_ne_zero
    intro e
    rw [e] at h1
    omega
  refine ⟨Nat.div_lt_of_lt_mul h1, Nat.mod_lt _ hp, h2, ?_⟩
  unfold lS lU
  rw [Nat.mul_comm, Nat.div_add_mod]
  exact h3
theorem lq_of {T : Tw} {s u : Nat} (hu : u < nS T) (h : lT T s u = true) : lS T (cp (lp T) (s * nS T + u)) = s ∧ lU T (cp (lp T) (s * nS T + u)) = u := by
  have e1 : (s * nS T + u) / nS T = s := by
    rw [Nat.mul_comm, Nat.mul_add_div (by omega), Nat.div_eq_of_lt hu, Nat.add_zero]
  have e2 : (s * nS T + u) % nS T = u := by
    rw [Nat.mul_comm, Nat.mul_add_mod, Nat.mod_eq_of_lt hu]
  have : lp T (s * nS T + u) = true := by
    unfold lp
    rw [e1, e2]
    exact h
  unfold lS lU
  rw [nt_cp this, e1, e2]
  exact ⟨rfl, rfl⟩
theorem nL_le {T : Tw} (hw : wf T) : nL T ≤ 552 := by
  have h24 := hw.2.1
  have hd : ∀ s, s < nS T → lp T (s * nS T + s) = false := by
    intro s hs
    unfold lp
    rw [show (s * nS T + s) / nS T = s from by rw [Nat.mul_comm, Nat.mul_add_div (by omega), Nat.div_eq_of_lt hs, Nat.add_zero], show (s * nS T + s) % nS T = s from by rw [Nat.mul_comm, Nat.mul_add_mod, Nat.mod_eq_of_lt hs]]
    refine cB_f.2 (fun ⟨a, b, _, _, h1, h2, h3⟩ => ?_)
    exact (tu3 h3).1 (by rw [h1, h2])
  have key : ∀ s, s ≤ nS T → cp (lp T) (s * nS T) + s ≤ s * nS T := by
    intro s
    induction s with
    | zero =>
      intro _
      rw [Nat.zero_mul]
      exact Nat.le_refl _
    | succ s ih =>
      intro hs
      have i1 := ih (by omega)
      rw [Nat.succ_mul, cp_add]
      have := cp_lt (p := fun j => lp T (s * nS T + j)) (n := nS T) (i := s) (by omega) (hd s (by omega))
      omega
  have := key (nS T) (Nat.le_refl _)
  unfold nL
  have h3 : nS T * nS T ≤ 23 * nS T + nS T := by
    rw [← Nat.succ_mul]
    exact Nat.mul_le_mul_right _ h24
  omega
def CLf (σ : zS) (t : Nat) (T : Tw) : Prop := gI σ t 4 = Int32.ofInt (nL T) ∧ ∀ k, k < nL T → gA σ (t + 13) k = Int32.ofInt ((100 * lS T k + lU T k : Nat) : Int)
theorem CLf_fz {lo hi t : Nat} {σ τ : zS} {T : Tw} (f : fz lo hi σ τ) (hlo : 46 ≤ lo) (ht : t = 18 ∨ t = 32) (h : CLf σ t T) : CLf τ t T := by
  unfold CLf
  rw [fz_I f (by omega), fz_A f (by omega)]
  exact h
/-- the object while a question is asked: the town, and the rules of the time -/
def QC (σ : zS) (t : Nat) (T : Tw) (r : Rl) : Prop := LA σ ∧ CT σ t T ∧ wf T ∧ CS σ t T ∧ CLf σ t T ∧ RS (gB σ 53) (gB σ 54) r ∧ ∀ a, a < 2 * nS T → ∀ b, bt (gB σ 55 a) b = nx T r a b
theorem QC_A {σ : zS} {t : Nat} {T : Tw} {r : Rl} (h : QC σ t T r) : LA σ := h.1
theorem QC_T {σ : zS} {t : Nat} {T : Tw} {r : Rl} (h : QC σ t T r) : CT σ t T := h.2.1
theorem QC_w {σ : zS} {t : Nat} {T : Tw} {r : Rl} (h : QC σ t T r) : wf T := h.2.2.1
theorem QC_S {σ : zS} {t : Nat} {T : Tw} {r : Rl} (h : QC σ t T r) : CS σ t T := h.2.2.2.1
theorem QC_l {σ : zS} {t : Nat} {T : Tw} {r : Rl} (h : QC σ t T r) : CLf σ t T := h.2.2.2.2.1
theorem QC_r {σ : zS} {t : Nat} {T : Tw} {r : Rl} (h : QC σ t T r) : RS (gB σ 53) (gB σ 54) r := h.2.2.2.2.2.1
theorem nx_A {T : Tw} {r : Rl} : ∀ a b, nx T r a b = true → isA T a = true ∧ isA T b = true := by
  intro a b h
  unfold nx at h
  rw [Bool.and_eq_true, Bool.and_eq_true] at h
  exact ⟨h.1, h.2.1⟩
theorem nx_E {T : Tw} {r : Rl} : ∀ a b, nx T r a b = true → en T a = bg T b := by
  intro a b h
  unfold nx my at h
  simp only [Bool.and_eq_true, Bool.or_eq_true, decide_eq_true_eq] at h
  have h2 : tu T a b = 1 ∨ tu T a b = 2 ∨ tu T a b = 3 := by
    rcases h.2.2.1 with (h | h) | h
    · exact .inl h
    · exact .inr (.inl h)
    · exact .inr (.inr h.1)
  apply Classical.byContradiction
  intro hn
  have : tu T a b = -1 := by
    unfold tu
    rw [if_pos hn]
  omega
theorem QC_N {σ : zS} {t : Nat} {T : Tw} {r : Rl} (h : QC σ t T r) : NX (gB σ 55) T (nx T r) := ⟨h.2.2.2.2.2.2, nx_A⟩
theorem QC_fz {lo hi t : Nat} {σ τ : zS} {T : Tw} {r : Rl} (f : fz lo hi σ τ) (hlo : 56 ≤ lo) (h : QC σ t T r) : QC τ t T r := by
  have ht := CT_t (QC_T h)
  refine ⟨LA_fz f h.1, CT_fz f (by omega) (QC_T h), QC_w h, CS_fz f (by omega) ht (QC_S h), CLf_fz f (by omega) ht (QC_l h), ?_, ?_⟩
  · rw [fz_B f (by omega), fz_B f (by omega)]
    exact QC_r h
  · rw [fz_B f (by omega)]
    exact h.2.2.2.2.2.2
