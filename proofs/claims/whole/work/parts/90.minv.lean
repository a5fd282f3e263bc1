/-! THE REFERENCE'S STATE -/
def MH (σ : zS) (H : Nat → Rl) (n : Nat) : Prop := gI σ 88 19 = Int32.ofInt n ∧ ∀ w, w ≤ n → RI (gA σ (205 + w)) (gA σ (407 + w)) (H w)
def MF (σ : zS) (T : Tw) : Prop := gI σ 88 27 = Int32.ofInt (nL T) ∧ ∀ k, k < nL T → gA σ (614 + k) 0 = Int32.ofInt (lS T k) ∧ gA σ (614 + k) 1 = Int32.ofInt (lU T k)
def MU (σ : zS) (U : Nat → Nat) (m : Nat) : Prop := gI σ 88 28 = Int32.ofInt m ∧ ∀ j, j < m → gA σ 1190 j = Int32.ofInt (U j)
def MM (σ : zS) (s : Ab) : Prop := gI σ 88 29 = Int32.ofInt (xK s) ∧ ∀ k, k < xK s → gA σ (1212 + k) 0 = Int32.ofInt (xi0 s k) ∧ gA σ (1212 + k) 1 = Int32.ofInt (xi1 s k) ∧ (∀ j, j < xi1 s k → gA σ (1212 + k) (2 + j) = Int32.ofInt (xi2 s k j)) ∧ ∀ w, w ≤ xi0 s k → RI (fun u => gA σ (1212 + k) (14 + 48 * w + 2 * u)) (fun u => gA σ (1212 + k) (15 + 48 * w + 2 * u)) (xH s w)
def MD (σ : zS) (s : Ab) : Prop := gI σ 88 1 = Int32.ofInt (xN s) ∧ (∀ j, j < xN s → gA σ 89 j = Int32.ofInt (xF s j)) ∧ gI σ 88 3 = Int32.ofInt (xP s)
def MI (σ : zS) (s : Ab) : Prop := Wv s ∧ MT σ (xT s) ∧ MF σ (xT s) ∧ MH σ (xH s) (xn s) ∧ MU σ (xU s) (xm s) ∧ MM σ s ∧ MD σ s ∧ gI σ 88 54 = Int32.ofInt (-1) ∧ 1283 ≤ gT σ
theorem MI_v {σ : zS} {s : Ab} (h : MI σ s) : Wv s := h.1
theorem MI_w {σ : zS} {s : Ab} (h : MI σ s) : wf (xT s) := h.1.2.2.2.1
theorem MI_n2 {σ : zS} {s : Ab} (h : MI σ s) : xn s ≤ 200 := h.1.2.2.2.2.1
theorem MI_T {σ : zS} {s : Ab} (h : MI σ s) : MT σ (xT s) := h.2.1
theorem MI_L {σ : zS} {s : Ab} (h : MI σ s) : LM σ := MT_L h.2.1
theorem MI_F {σ : zS} {s : Ab} (h : MI σ s) : MF σ (xT s) := h.2.2.1
theorem MI_H {σ : zS} {s : Ab} (h : MI σ s) : MH σ (xH s) (xn s) := h.2.2.2.1
theorem MI_U {σ : zS} {s : Ab} (h : MI σ s) : MU σ (xU s) (xm s) := h.2.2.2.2.1
theorem MI_M {σ : zS} {s : Ab} (h : MI σ s) : MM σ s := h.2.2.2.2.2.1
theorem MI_D {σ : zS} {s : Ab} (h : MI σ s) : MD σ s := h.2.2.2.2.2.2.1
theorem MI_b {σ : zS} {s : Ab} (h : MI σ s) : gI σ 88 54 = Int32.ofInt (-1) := h.2.2.2.2.2.2.2.1
theorem MI_g {σ : zS} {s : Ab} (h : MI σ s) : 1283 ≤ gT σ := h.2.2.2.2.2.2.2.2
/-- what is kept from call to call -/
def cor2 (a : Nat) : Prop := (a < 608 ∧ a ≠ 88) ∨ (613 ≤ a ∧ a ≤ 1190) ∨ (1211 ≤ a ∧ a ≤ 1214) ∨ 1282 ≤ a
def cof (k : Nat) : Prop := k = 1 ∨ k = 3 ∨ k = 19 ∨ k = 27 ∨ k = 28 ∨ k = 29 ∨ k = 54
/-- what a question to the reference may change -/
def fK (σ τ : zS) : Prop := gT σ ≤ gT τ ∧ (∀ a, a < gT σ → gD τ a = gD σ a ∧ gN τ a = gN σ a ∧ gR τ a = gR σ a) ∧ (∀ a, a < gT σ → cor2 a → gI τ a = gI σ a ∧ gJ τ a = gJ σ a ∧ gA τ a = gA σ a ∧ gB τ a = gB σ a) ∧ ∀ k, cof k → gI τ 88 k = gI σ 88 k
theorem fK_refl {σ : zS} : fK σ σ := ⟨Nat.le_refl _, fun _ _ => ⟨rfl, rfl, rfl⟩, fun _ _ _ => ⟨rfl, rfl, rfl, rfl⟩, fun _ _ => rfl⟩
theorem fK_trans {σ τ ρ : zS} (h : fK σ τ) (g : fK τ ρ) : fK σ ρ := by
  refine ⟨Nat.le_trans h.1 g.1, fun a ha => ?_, fun a ha hc => ?_, fun k hk => (g.2.2.2 k hk).trans (h.2.2.2 k hk)⟩
  · have k1 := h.2.1 a ha
    have k2 := g.2.1 a (Nat.lt_of_lt_of_le ha h.1)
    exact ⟨k2.1.trans k1.1, k2.2.1.trans k1.2.1, k2.2.2.trans k1.2.2⟩
  · have k1 := h.2.2.1 a ha hc
    have k2 := g.2.2.1 a (Nat.lt_of_lt_of_le ha h.1) hc
    exact ⟨k2.1.trans k1.1, k2.2.1.trans k1.2.1, k2.2.2.1.trans k1.2.2.1, k2.2.2.2.trans k1.2.2.2⟩
theorem fK_A {σ τ : zS} {q : Nat} {f : Nat → Int32} (h : fK σ τ) (hq : ¬ cor2 q ∨ gT σ ≤ q) : fK σ (sA τ q f) := by
  refine ⟨h.1, h.2.1, fun a ha hc => ?_, h.2.2.2⟩
  have k := h.2.2.1 a ha hc
  refine ⟨k.1, k.2.1, ?_, k.2.2.2⟩
  show (if a = q then f else gA τ a) = _
  rw [if_neg (fun z => by subst z; exact hq.elim (fun z => z hc) (fun z => by omega))]
  exact k.2.2.1
theorem fK_B {σ τ : zS} {q : Nat} {f : Nat → Int64} (h : fK σ τ) (hq : ¬ cor2 q ∨ gT σ ≤ q) : fK σ (sB τ q f) := by
  refine ⟨h.1, h.2.1, fun a ha hc => ?_, h.2.2.2⟩
  have k := h.2.2.1 a ha hc
  refine ⟨k.1, k.2.1, k.2.2.1, ?_⟩
  show (if a = q then f else gB τ a) = _
  rw [if_neg (fun z => by subst z; exact hq.elim (fun z => z hc) (fun z => by omega))]
  exact k.2.2.2
theorem fK_I {σ τ : zS} {j : Nat} {x : Int32} (h : fK σ τ) (hj : ¬ cof j) : fK σ (sI τ 88 j x) := by
  refine ⟨h.1, h.2.1, fun a ha hc => ?_, fun k hk => ?_⟩
  · have k := h.2.2.1 a ha hc
    refine ⟨?_, k.2⟩
    funext b
    show (if a = 88 ∧ b = j then x else gI τ a b) = _
    rw [if_neg (fun z => by unfold cor2 at hc; omega), k.1]
  · show (if 88 = 88 ∧ k = j then x else gI τ 88 k) = _
    rw [if_neg (fun z => by rw [z.2] at hk; exact hj hk)]
    exact h.2.2.2 k hk
theorem fK_J {σ τ : zS} {j : Nat} {x : Int64} (h : fK σ τ) : fK σ (sJ τ 88 j x) := by
  refine ⟨h.1, h.2.1, fun a ha hc => ?_, fun k hk => h.2.2.2 k hk⟩
  have k := h.2.2.1 a ha hc
  refine ⟨k.1, ?_, k.2.2⟩
  funext b
  show (if a = 88 ∧ b = j then x else gJ τ a b) = _
  rw [if_neg (fun z => by unfold cor2 at hc; omega), k.2.1]
theorem fK_N {σ τ : zS} {n : Nat} (h : fK σ τ) : fK σ (nA τ n) := by
  have ht := h.1
  refine ⟨Nat.le_succ_of_le h.1, fun a ha => ?_, fun a ha hc => ?_, h.2.2.2⟩
  · have k := h.2.1 a ha
    refine ⟨?_, ?_, k.2.2⟩
    · show (if a = gT τ then 1 else gD τ a) = _
      rw [if_neg (by omega)]
      exact k.1
    · show (if a = gT τ then n else gN τ a) = _
      rw [if_neg (by omega)]
      exact k.2.1
  · have k := h.2.2.1 a ha hc
    refine ⟨k.1, k.2.1, ?_, k.2.2.2⟩
    show (if a = gT τ then (fun _ => 0) else gA τ a) = _
    rw [if_neg (by omega)]
    exact k.2.2.1
theorem MI_fK {σ τ : zS} {s : Ab} (f : fK σ τ) (h : MI σ s) : MI τ s := by
  have hg := MI_g h
  have hv := MI_v h
  have eA : ∀ a, a < 1283 → cor2 a → gA τ a = gA σ a := fun a ha hc => (f.2.2.1 a (by omega) hc).2.2.1
  have eF := f.2.2.2
  have hL : LM τ := LM_lt (MI_L h) hg f.2.1
  have hnl : nL (xT s) ≤ 576 := Nat.le_trans (nL_le (MI_w h)) (by omega)
  refine ⟨hv, MT_eq (MI_T h) (MI_w h) hL (fun a h1 h2 => eA a (by omega) (by unfold cor2; omega)), ⟨?_, fun k hk => ?_⟩, ⟨?_, fun w hw => ?_⟩, ⟨?_, fun j hj => ?_⟩, ⟨?_, fun k hk => ?_⟩, ⟨?_, fun j hj => ?_, ?_⟩, ?_, Nat.le_trans hg f.1⟩
  · rw [eF 27 (by unfold cof; omega)]
    exact (MI_F h).1
  · rw [eA (614 + k) (by omega) (by unfold cor2; omega)]
    exact (MI_F h).2 k hk
  · rw [eF 19 (by unfold cof; omega)]
    exact (MI_H h).1
  · have := MI_n2 h
    rw [eA (205 + w) (by omega) (by unfold cor2; omega), eA (407 + w) (by omega) (by unfold cor2; omega)]
    exact (MI_H h).2 w hw
  · rw [eF 28 (by unfold cof; omega)]
    exact (MI_U h).1
  · rw [eA 1190 (by omega) (by unfold cor2; omega)]
    exact (MI_U h).2 j hj
  · rw [eF 29 (by unfold cof; omega)]
    exact (MI_M h).1
  · have := hv.2.2.2.2.2.2.2.1
    rw [eA (1212 + k) (by omega) (by unfold cor2; omega)]
    exact (MI_M h).2 k hk
  · rw [eF 1 (by unfold cof; omega)]
    exact (MI_D h).1
  · rw [eA 89 (by omega) (by unfold cor2; omega)]
    exact (MI_D h).2.1 j hj
  · rw [eF 3 (by unfold cof; omega)]
    exact (MI_D h).2.2
  · rw [eF 54 (by unfold cof; omega)]
    exact MI_b h
/-- an answer of the reference: its code, its value -/
def AN (c : Nat → Int) (v : Nat ⊕ Int) (τ : zS) (z : Int32) : Prop := match v with
  | .inl e => gI τ 88 0 = Int32.ofInt (c e)
  | .inr x => gI τ 88 0 = Int32.ofInt 0 ∧ z = Int32.ofInt x
