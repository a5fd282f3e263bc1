/-! THE REFERENCE'S READER: numbers, in a row -/
def fN (σ τ : zS) : Prop := fD σ τ ∧ gA τ = gA σ
theorem fN_refl {σ : zS} : fN σ σ := ⟨fD_refl, rfl⟩
theorem fN_I {σ τ : zS} {j : Nat} {x : Int32} (h : fN σ τ) (hj : 4 ≤ j ∧ j ≤ 6) : fN σ (sI τ 88 j x) := ⟨fD_I h.1 hj, h.2⟩
def g56 (σ τ : zS) : Prop := gI τ 88 5 = Int32.ofInt 0 ∧ gI τ 88 6 = gI σ 88 6
theorem g56_4 {σ τ : zS} {x : Int32} (h : g56 σ τ) : g56 σ (sI τ 88 4 x) := ⟨by rw [gI_sI, if_neg (by omega)]; exact h.1, by rw [gI_sI, if_neg (by omega)]; exact h.2⟩
/-- told wrong: of the kind k, at the place pl -/
def ME (σ : zS) (f : Nat → Nat) (n k pl : Nat) (τ : zS) : Prop := fN σ τ ∧ (∃ q, mrd τ f n q) ∧ gI τ 88 5 = Int32.ofInt k ∧ (k = 1 ∨ k = 2) ∧ gI τ 88 6 = Int32.ofInt pl
theorem ME_L {σ τ : zS} {f : Nat → Nat} {n k pl : Nat} (h : ME σ f n k pl τ) : LM τ := h.2.1.elim (fun _ z => z.1)
theorem ME_5 {σ τ : zS} {f : Nat → Nat} {n k pl : Nat} (h : ME σ f n k pl τ) : gI τ 88 5 = Int32.ofInt k := h.2.2.1
theorem ME_k {σ τ : zS} {f : Nat → Nat} {n k pl : Nat} (h : ME σ f n k pl τ) : (Int32.ofInt ((k : Nat) : Int) = 0) = False := ke h.2.2.2.1
theorem ME_4 {σ τ : zS} {f : Nat → Nat} {n k pl q : Nat} (h : ME σ f n k pl τ) (hq : q ≤ n) : ME σ f n k pl (sI τ 88 4 (Int32.ofInt q)) := by
  obtain ⟨g, ⟨p, hr⟩, g5, hk, g6⟩ := h
  refine ⟨fN_I g (by omega), ⟨q, mrd_4 hr hq⟩, ?_, hk, ?_⟩
  · rw [gI_sI, if_neg (by omega)]
    exact g5
  · rw [gI_sI, if_neg (by omega)]
    exact g6
theorem ME_of {σ σ1 : zS} {f : Nat → Nat} {n p q k pl : Nat} (hr : mrd σ1 f n p) (g : fN σ σ1) (hq : q ≤ n) (hk : k = 1 ∨ k = 2) : ME σ f n k pl (sI (sI (sI σ1 88 4 (Int32.ofInt q)) 88 5 (Int32.ofInt k)) 88 6 (Int32.ofInt pl)) := ⟨fN_I (fN_I (fN_I g (by omega)) (by omega)) (by omega), ⟨q, mrd_e hr hq⟩, w5, hk, by rw [gI_sI, if_pos ⟨rfl, rfl⟩]⟩
theorem PM_E {σ τ : zS} {f : Nat → Nat} {n k pl : Nat} {Q : zQ} (h : PM σ f n Q (.inl (k, pl))) (me : ME σ f n k pl τ) : Q (.inl none) (hOf τ) := by
  obtain ⟨g, ⟨p, hr⟩, g5, hk, g6⟩ := me
  exact h.1 k pl p τ rfl g.1 hr g5 (by omega) g6
theorem DT_A {σ τ : zS} {T : Tw} {r : Rl} (h : gA τ = gA σ) (hd : DT σ T r) : DT τ T r := by
  unfold DT at hd ⊢
  rw [h]
  exact hd
theorem m_num {σ σ1 : zS} {n p : Nat} {f : Nat → Nat} {lo hi : Int} {Q : zQ} (h : mrd σ1 f n p) (h5 : g56 σ σ1) (g : fN σ σ1) (hl : 0 ≤ lo ∧ lo ≤ 1) (hh : -1 ≤ hi ∧ hi ≤ 99) (hQ1 : ∀ k pl τ, rdN f n lo hi p = .inl (k, pl) → ME σ f n k pl τ → Q (.inl (some (.int (Int32.ofInt 0)))) (hOf τ)) (hQ2 : ∀ q v τ, rdN f n lo hi p = .inr (q, v) → fN σ τ → mrd τ f n q → g56 σ τ → Q (.inl (some (.int (Int32.ofInt v)))) (hOf τ)) : zW zP 299 [.ref 88, .int (Int32.ofInt lo), .int (Int32.ofInt hi)] (hOf σ1) Q := by
  refine m_number h h5.1 hl hh (fun k pl q hk hq hk2 => hQ1 k pl _ hk (ME_of h g hq hk2)) (fun q v hv => ?_)
  obtain ⟨v1, v2, v3⟩ := rdN_ok h.2.2.2.2.2 hv
  exact hQ2 q v _ hv (fN_I g (by omega)) (mrd_4 h v1) (g56_4 h5)
theorem m_oth {σ σ1 : zS} {n p a : Nat} {f : Nat → Nat} {hi : Int} {Q : zQ} (h : mrd σ1 f n p) (h5 : g56 σ σ1) (g : fN σ σ1) (hh : -1 ≤ hi ∧ hi ≤ 99) (ha : a ≤ 99) (hQ1 : ∀ k pl τ z, (rdN f n 0 hi p = .inl (k, pl) ∨ (k = 2 ∧ pl = scn isB f n p ∧ ∃ q2, rdN f n 0 hi p = .inr (q2, a))) → ME σ f n k pl τ → Q (.inl (some (.int z))) (hOf τ)) (hQ2 : ∀ q v τ, rdN f n 0 hi p = .inr (q, v) → v ≠ a → fN σ τ → mrd τ f n q → g56 σ τ → Q (.inl (some (.int (Int32.ofInt v)))) (hOf τ)) : zW zP 303 [.ref 88, .int (Int32.ofInt hi), .int (Int32.ofInt a)] (hOf σ1) Q := by
  refine m_other h h5.1 hh ha (fun k pl q z hk hq hk2 => hQ1 k pl _ z hk (ME_of h g hq hk2)) (fun q v hv hne => ?_)
  obtain ⟨v1, v2, v3⟩ := rdN_ok h.2.2.2.2.2 hv
  exact hQ2 q v _ hv hne (fN_I g (by omega)) (mrd_4 h v1) (g56_4 h5)
theorem m_othE {σ σ1 : zS} {n k pl : Nat} {f : Nat → Nat} {hi a : Int32} {Q : zQ} (me : ME σ f n k pl σ1) (hQ : ∀ τ, ME σ f n k pl τ → Q (.inl (some (.int (Int32.ofInt 0)))) (hOf τ)) : zW zP 303 [.ref 88, .int hi, .int a] (hOf σ1) Q := by
  obtain ⟨g, ⟨p, hr⟩, g5, hk, g6⟩ := id me
  obtain ⟨s1, s2, s3, s4⟩ := scn_ok (P := isB) (f := f) (n := n) (p := p) (by decide) hr.2.2.2.2.2
  exact m_otherE hr g5 (ke hk) (hQ _ (ME_4 me s2))
theorem m_numE {σ σ1 : zS} {n k pl : Nat} {f : Nat → Nat} {lo hi : Int32} {Q : zQ} (me : ME σ f n k pl σ1) : zW zP 299 [.ref 88, .int lo, .int hi] (hOf σ1) Q = Q (.inl (some (.int (Int32.ofInt 0)))) (hOf σ1) := m_numberE (ME_L me) (ME_5 me) (ME_k me)
theorem m_wrgE {σ σ1 : zS} {n k pl : Nat} {f : Nat → Nat} {x y : Int32} {Q : zQ} (me : ME σ f n k pl σ1) : zW zP 292 [.ref 88, .int x, .int y] (hOf σ1) Q = Q (.inl none) (hOf σ1) := m_wrong1 (ME_L me) (ME_5 me) (ME_k me)
theorem m_blkE {σ σ1 : zS} {n k pl : Nat} {f : Nat → Nat} {Q : zQ} (me : ME σ f n k pl σ1) (hQ : ∀ τ, ME σ f n k pl τ → Q (.inl none) (hOf τ)) : zW zP 291 [.ref 88] (hOf σ1) Q := by
  obtain ⟨g, ⟨p, hr⟩, g5, hk, g6⟩ := id me
  obtain ⟨s1, s2, s3, s4⟩ := scn_ok (P := isB) (f := f) (n := n) (p := p) (by decide) hr.2.2.2.2.2
  exact m_blanks hr (hQ _ (ME_4 me s2))
/-- the same but for the rows of ints -/
def eQ0 (τ ρ : zS) : Prop := (gD ρ = gD τ ∧ gN ρ = gN τ ∧ gR ρ = gR τ ∧ gT ρ = gT τ) ∧ gB ρ = gB τ ∧ gJ ρ = gJ τ ∧ gI ρ = gI τ
theorem fD_e {σ τ ρ : zS} (g : fD σ τ) (e : eQ0 τ ρ) (hA : ∀ a, ¬ drf a → gA ρ a = gA τ a) : fD σ ρ := by
  obtain ⟨⟨e1, e2, e3, e4⟩, e5, e6, e7⟩ := e
  obtain ⟨⟨g1, g2, g3, g4⟩, g5, g6, g7, g8⟩ := g
  refine ⟨⟨e1.trans g1, e2.trans g2, e3.trans g3, e4.trans g4⟩, e5.trans g5, e6.trans g6, fun a k hk => ?_, fun a ha => (hA a ha).trans (g8 a ha)⟩
  rw [e7]
  exact g7 a k hk
theorem mrd_eA {τ ρ : zS} {f : Nat → Nat} {n p : Nat} (h : mrd τ f n p) (e : eQ0 τ ρ) (hA : gA ρ 89 = gA τ 89) : mrd ρ f n p := by
  obtain ⟨⟨e1, e2, e3, e4⟩, e5, e6, e7⟩ := e
  obtain ⟨h1, h2, h3, h4, h5, h6⟩ := h
  refine ⟨LM_eq h1 e1 e2 e3, by rw [e7]; exact h2, by rw [e7]; exact h3, by rw [hA]; exact h4, h5, h6⟩
theorem DT_AR {τ ρ : zS} {T : Tw} {r : Rl} {a b m : Nat} (h : DT τ T r) (hw : wf T) (hf : nR T < 12) (hA : ∀ q, q ≠ 90 → q ≠ 177 + nR T → gA ρ q = gA τ q) (h90 : ∀ j, j ≠ 3 → gA ρ 90 j = gA τ 90 j) (h93 : gA ρ 90 3 = Int32.ofInt ((nR T + 1 : Nat) : Int)) (c0 : gA ρ (177 + nR T) 0 = Int32.ofInt a) (c1 : gA ρ (177 + nR T) 1 = Int32.ofInt b) (c2 : gA ρ (177 + nR T) 2 = Int32.ofInt m) : DT ρ (tAR T a b m) r := by
  have h16 := hw.1
  have h24 := hw.2.1
  obtain ⟨⟨k0, k1, k2, k3⟩, d1, d2, d3, d4⟩ := h
  refine ⟨⟨by rw [h90 0 (by omega)]; exact k0, by rw [h90 1 (by omega)]; exact k1, by rw [h90 2 (by omega)]; exact k2, h93⟩, fun c hc => ?_, fun c hc => ?_, fun q hq => ?_, ?_⟩
  · have hc : c < nC T := hc
    rw [hA (93 + c) (by omega) (by omega)]
    exact d1 c hc
  · have hc : c < nS T := hc
    rw [hA (127 + c) (by omega) (by omega)]
    exact d2 c hc
  · have hq : q < nR T + 1 := hq
    show _ = Int32.ofInt ((if q = nR T then a else rA T q : Nat) : Int) ∧ _ = Int32.ofInt ((if q = nR T then b else rB T q : Nat) : Int) ∧ _ = Int32.ofInt ((if q = nR T then m else rM T q : Nat) : Int)
    by_cases e : q = nR T
    · rw [if_pos e, if_pos e, if_pos e, e]
      exact ⟨c0, c1, c2⟩
    · rw [if_neg e, if_neg e, if_neg e, hA (177 + q) (by omega) (by omega)]
      exact d3 q (by omega)
  · rw [hA 202 (by omega) (by omega), hA 203 (by omega) (by omega)]
    exact d4
theorem DT_AS {τ ρ : zS} {T : Tw} {r : Rl} {a b m : Nat} (h : DT τ T r) (hw : wf T) (hf : nS T < 24) (hA : ∀ q, q ≠ 90 → q ≠ 127 + nS T → gA ρ q = gA τ q) (h90 : ∀ j, j ≠ 1 → gA ρ 90 j = gA τ 90 j) (h93 : gA ρ 90 1 = Int32.ofInt ((nS T + 1 : Nat) : Int)) (c0 : gA ρ (127 + nS T) 0 = Int32.ofInt a) (c1 : gA ρ (127 + nS T) 1 = Int32.ofInt b) (c2 : gA ρ (127 + nS T) 2 = Int32.ofInt m) (c3 : gA ρ (127 + nS T) 3 = Int32.ofInt 0) : DT ρ (tAS T a b m) r := by
  have h16 := hw.1
  have h24 := hw.2.1
  have h12 := hw.2.2.1
  obtain ⟨⟨k0, k1, k2, k3⟩, d1, d2, d3, d4⟩ := h
  refine ⟨⟨by rw [h90 0 (by omega)]; exact k0, h93, by rw [h90 2 (by omega)]; exact k2, by rw [h90 3 (by omega)]; exact k3⟩, fun c hc => ?_, fun q hq => ?_, fun c hc => ?_, ?_⟩
  · have hc : c < nC T := hc
    rw [hA (93 + c) (by omega) (by omega)]
    exact d1 c hc
  · have hq : q < nS T + 1 := hq
    show _ = Int32.ofInt ((if q = nS T then a else tA T q : Nat) : Int) ∧ _ = Int32.ofInt ((if q = nS T then b else tB T q : Nat) : Int) ∧ _ = Int32.ofInt ((if q = nS T then m else tN T q : Nat) : Int) ∧ _ = bI (if q = nS T then false else tO T q)
    by_cases e : q = nS T
    · rw [if_pos e, if_pos e, if_pos e, if_pos e, e]
      exact ⟨c0, c1, c2, c3⟩
    · rw [if_neg e, if_neg e, if_neg e, if_neg e, hA (127 + q) (by omega) (by omega)]
      exact d2 q (by omega)
  · have hc : c < nR T := hc
    rw [hA (177 + c) (by omega) (by omega)]
    exact d3 c hc
  · rw [hA 202 (by omega) (by omega), hA 203 (by omega) (by omega)]
    exact d4
theorem DT_AC {τ ρ : zS} {T : Tw} {r : Rl} {a b : Nat} (h : DT τ T r) (hw : wf T) (hf : nC T < 16) (hA : ∀ q, q ≠ 90 → q ≠ 93 + nC T → gA ρ q = gA τ q) (h90 : ∀ j, j ≠ 0 → gA ρ 90 j = gA τ 90 j) (h93 : gA ρ 90 0 = Int32.ofInt ((nC T + 1 : Nat) : Int)) (c0 : gA ρ (93 + nC T) 0 = Int32.ofInt a) (c1 : gA ρ (93 + nC T) 1 = Int32.ofInt b) : DT ρ (tAC T a b) r := by
  have h16 := hw.1
  have h24 := hw.2.1
  have h12 := hw.2.2.1
  obtain ⟨⟨k0, k1, k2, k3⟩, d1, d2, d3, d4⟩ := h
  refine ⟨⟨h93, by rw [h90 1 (by omega)]; exact k1, by rw [h90 2 (by omega)]; exact k2, by rw [h90 3 (by omega)]; exact k3⟩, fun q hq => ?_, fun c hc => ?_, fun c hc => ?_, ?_⟩
  · have hq : q < nC T + 1 := hq
    show _ = Int32.ofInt ((if q = nC T then a else tX T q : Nat) : Int) ∧ _ = Int32.ofInt ((if q = nC T then b else tY T q : Nat) : Int)
    by_cases e : q = nC T
    · rw [if_pos e, if_pos e, e]
      exact ⟨c0, c1⟩
    · rw [if_neg e, if_neg e, hA (93 + q) (by omega) (by omega)]
      exact d1 q (by omega)
  · have hc : c < nS T := hc
    rw [hA (127 + c) (by omega) (by omega)]
    exact d2 c hc
  · have hc : c < nR T := hc
    rw [hA (177 + c) (by omega) (by omega)]
    exact d3 c hc
  · rw [hA 202 (by omega) (by omega), hA 203 (by omega) (by omega)]
    exact d4
