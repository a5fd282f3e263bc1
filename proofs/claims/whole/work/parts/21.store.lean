/-! THE STORE: the small machine's heap by functions: kinds (0 nothing, 1 ints, 2 longs, 3 rows, c and 4 an object of the class c), lengths, fields (ints, longs, references), contents (ints, longs), the next free place -/
abbrev zS : Type := (Nat → Nat) × (Nat → Nat) × (Nat → Nat → Int32) × (Nat → Nat → Int64) × (Nat → Nat → Nat) × (Nat → Nat → Int32) × (Nat → Nat → Int64) × Nat
def gD (s : zS) : Nat → Nat := s.1
def gN (s : zS) : Nat → Nat := s.2.1
def gI (s : zS) : Nat → Nat → Int32 := s.2.2.1
def gJ (s : zS) : Nat → Nat → Int64 := s.2.2.2.1
def gR (s : zS) : Nat → Nat → Nat := s.2.2.2.2.1
def gA (s : zS) : Nat → Nat → Int32 := s.2.2.2.2.2.1
def gB (s : zS) : Nat → Nat → Int64 := s.2.2.2.2.2.2.1
def gT (s : zS) : Nat := s.2.2.2.2.2.2.2
def sI (s : zS) (a k : Nat) (x : Int32) : zS := (gD s, gN s, fun b j => if b = a ∧ j = k then x else gI s b j, gJ s, gR s, gA s, gB s, gT s)
def sJ (s : zS) (a k : Nat) (x : Int64) : zS := (gD s, gN s, gI s, fun b j => if b = a ∧ j = k then x else gJ s b j, gR s, gA s, gB s, gT s)
def sR (s : zS) (a k : Nat) (x : Nat) : zS := (gD s, gN s, gI s, gJ s, fun b j => if b = a ∧ j = k then x else gR s b j, gA s, gB s, gT s)
def sA (s : zS) (a : Nat) (g : Nat → Int32) : zS := (gD s, gN s, gI s, gJ s, gR s, fun b => if b = a then g else gA s b, gB s, gT s)
def sB (s : zS) (a : Nat) (g : Nat → Int64) : zS := (gD s, gN s, gI s, gJ s, gR s, gA s, fun b => if b = a then g else gB s b, gT s)
/-- a new array of ints; a cell of which nothing is said -/
def nA (s : zS) (n : Nat) : zS := (fun b => if b = gT s then 1 else gD s b, fun b => if b = gT s then n else gN s b, gI s, gJ s, gR s, fun b => if b = gT s then fun _ => 0 else gA s b, gB s, gT s + 1)
def nX (s : zS) : zS := (fun b => if b = gT s then 0 else gD s b, gN s, gI s, gJ s, gR s, gA s, gB s, gT s + 1)
def fvl (s : zS) (a c k : Nat) : Value := match zty c k with
  | .int => .int (gI s a k)
  | .long => .long (gJ s a k)
  | _ => .ref (gR s a k)
def fls (s : zS) (a c : Nat) : List Value := (List.range (zsz.getD c 0)).map (fvl s a c)
def cel (s : zS) (a : Nat) : zC := match gD s a with
  | 0 => .inr (0, [])
  | 1 => .inl (0, gN s a, .inl (gA s a))
  | 2 => .inl (1, gN s a, .inr (.inl (gB s a)))
  | 3 => .inl (2, gN s a, .inr (.inr (.inr (.inr (fun j => if j < gN s a then some (a + 1 + j) else none)))))
  | c + 4 => .inr (c + 1, fls s a c)
def hOf (s : zS) : zH := (cel s, gT s)
theorem zH_ext {h1 h2 : zH} (e1 : ∀ a, h1.1 a = h2.1 a) (e2 : h1.2 = h2.2) : h1 = h2 := Prod.ext (funext e1) e2
theorem cel_I {s : zS} {q : Nat} (h : gD s q = 1) : cel s q = .inl (0, gN s q, .inl (gA s q)) := by unfold cel; rw [h]
theorem cel_L {s : zS} {q : Nat} (h : gD s q = 2) : cel s q = .inl (1, gN s q, .inr (.inl (gB s q))) := by unfold cel; rw [h]
theorem cel_R {s : zS} {q : Nat} (h : gD s q = 3) : cel s q = .inl (2, gN s q, .inr (.inr (.inr (.inr (fun j => if j < gN s q then some (q + 1 + j) else none))))) := by unfold cel; rw [h]
theorem cel_O {s : zS} {q c : Nat} (h : gD s q = c + 4) : cel s q = .inr (c + 1, fls s q c) := by unfold cel; rw [h]
theorem up_A {s : zS} {q n : Nat} {g : Nat → Int32} (h : gD s q = 1) (hn : gN s q = n) : zup (hOf s) q (.inl (0, n, .inl g)) = hOf (sA s q g) := by
  subst hn
  refine zH_ext (fun a => ?_) rfl
  show (if a = q then _ else cel s a) = cel (sA s q g) a
  by_cases e : a = q
  · subst e
    rw [if_pos rfl, cel_I (s := sA s a g) h]
    show _ = Sum.inl (0, gN s a, Sum.inl (if a = a then g else gA s a))
    rw [if_pos rfl]
  · rw [if_neg e]
    show cel s a = _
    unfold cel
    show _ = (match gD s a with
      | 0 => Sum.inr (0, [])
      | 1 => Sum.inl (0, gN s a, Sum.inl (if a = q then g else gA s a))
      | 2 => Sum.inl (1, gN s a, Sum.inr (Sum.inl (gB s a)))
      | 3 => Sum.inl (2, gN s a, Sum.inr (Sum.inr (Sum.inr (Sum.inr (fun j => if j < gN s a then some (a + 1 + j) else none)))))
      | c + 4 => Sum.inr (c + 1, fls s a c))
    rw [if_neg e]
theorem up_B {s : zS} {q n : Nat} {g : Nat → Int64} (h : gD s q = 2) (hn : gN s q = n) : zup (hOf s) q (.inl (1, n, .inr (.inl g))) = hOf (sB s q g) := by
  subst hn
  refine zH_ext (fun a => ?_) rfl
  show (if a = q then _ else cel s a) = cel (sB s q g) a
  by_cases e : a = q
  · subst e
    rw [if_pos rfl, cel_L (s := sB s a g) h]
    show _ = Sum.inl (1, gN s a, Sum.inr (Sum.inl (if a = a then g else gB s a)))
    rw [if_pos rfl]
  · rw [if_neg e]
    show cel s a = _
    unfold cel
    show _ = (match gD s a with
      | 0 => Sum.inr (0, [])
      | 1 => Sum.inl (0, gN s a, Sum.inl (gA s a))
      | 2 => Sum.inl (1, gN s a, Sum.inr (Sum.inl (if a = q then g else gB s a)))
      | 3 => Sum.inl (2, gN s a, Sum.inr (Sum.inr (Sum.inr (Sum.inr (fun j => if j < gN s a then some (a + 1 + j) else none)))))
      | c + 4 => Sum.inr (c + 1, fls s a c))
    rw [if_neg e]
theorem fls_get {s : zS} {a c k : Nat} (h : k < zsz.getD c 0) : (fls s a c)[k]? = some (fvl s a c k) := by
  unfold fls
  rw [List.getElem?_map, List.getElem?_range h]
  rfl
theorem fls_len {s : zS} {a c : Nat} : (fls s a c).length = zsz.getD c 0 := by
  unfold fls
  rw [List.length_map, List.length_range]
theorem fls_set {s s2 : zS} {a c k : Nat} {v : Value} (hv : fvl s2 a c k = v) (ho : ∀ j, j ≠ k → fvl s2 a c j = fvl s a c j) : (fls s a c).set k v = fls s2 a c := by
  apply List.ext_getElem?
  intro j
  by_cases hj : j < zsz.getD c 0
  · rw [fls_get hj]
    by_cases e : k = j
    · subst e
      rw [List.getElem?_set_self (by rw [fls_len]; exact hj), hv]
    · rw [List.getElem?_set_ne e, fls_get hj, ho j (Ne.symm e)]
  · have h1 : ((fls s a c).set k v).length ≤ j := by rw [List.length_set, fls_len]; omega
    have h2 : (fls s2 a c).length ≤ j := by rw [fls_len]; omega
    rw [List.getElem?_eq_none h1, List.getElem?_eq_none h2]
theorem fls_same {s s2 : zS} {a c : Nat} (ho : ∀ j, fvl s2 a c j = fvl s a c j) : fls s2 a c = fls s a c := by
  unfold fls
  exact List.map_congr_left (fun j _ => ho j)
theorem up_O {s s2 : zS} {q c k : Nat} {v : Value} (h : gD s q = c + 4) (hD : gD s2 = gD s) (hN : gN s2 = gN s) (hA : gA s2 = gA s) (hB : gB s2 = gB s) (hT : gT s2 = gT s) (hv : fvl s2 q c k = v) (ho : ∀ c j, j ≠ k → fvl s2 q c j = fvl s q c j) (ho2 : ∀ a c j, a ≠ q → fvl s2 a c j = fvl s a c j) : zup (hOf s) q (.inr (c + 1, (fls s q c).set k v)) = hOf s2 := by
  refine zH_ext (fun a => ?_) hT.symm
  show (if a = q then _ else cel s a) = cel s2 a
  by_cases e : a = q
  · subst e
    rw [if_pos rfl, cel_O (s := s2) (by rw [hD]; exact h), fls_set hv (ho c)]
  · rw [if_neg e]
    unfold cel
    rw [hD, hN, hA, hB]
    split <;> first | rfl | (rw [fls_same (fun j => ho2 a _ j e)])
theorem up_fI {s : zS} {q c k : Nat} {x : Int32} (h : gD s q = c + 4) (ht : zty c k = .int) : zup (hOf s) q (.inr (c + 1, (fls s q c).set k (.int x))) = hOf (sI s q k x) := by
  refine up_O h rfl rfl rfl rfl rfl ?_ ?_ ?_
  · unfold fvl
    rw [ht]
    show Value.int (if q = q ∧ k = k then x else gI s q k) = _
    rw [if_pos ⟨rfl, rfl⟩]
  · intro c j hj
    unfold fvl
    show (match zty c j with
      | .int => Value.int (if q = q ∧ j = k then x else gI s q j)
      | .long => .long (gJ s q j)
      | _ => .ref (gR s q j)) = _
    rw [if_neg (fun z => hj z.2)]
  · intro a c j ha
    unfold fvl
    show (match zty c j with
      | .int => Value.int (if a = q ∧ j = k then x else gI s a j)
      | .long => .long (gJ s a j)
      | _ => .ref (gR s a j)) = _
    rw [if_neg (fun z => ha z.1)]
theorem up_fJ {s : zS} {q c k : Nat} {x : Int64} (h : gD s q = c + 4) (ht : zty c k = .long) : zup (hOf s) q (.inr (c + 1, (fls s q c).set k (.long x))) = hOf (sJ s q k x) := by
  refine up_O h rfl rfl rfl rfl rfl ?_ ?_ ?_
  · unfold fvl
    rw [ht]
    show Value.long (if q = q ∧ k = k then x else gJ s q k) = _
    rw [if_pos ⟨rfl, rfl⟩]
  · intro c j hj
    unfold fvl
    show (match zty c j with
      | .int => Value.int (gI s q j)
      | .long => .long (if q = q ∧ j = k then x else gJ s q j)
      | _ => .ref (gR s q j)) = _
    rw [if_neg (fun z => hj z.2)]
  · intro a c j ha
    unfold fvl
    show (match zty c j with
      | .int => Value.int (gI s a j)
      | .long => .long (if a = q ∧ j = k then x else gJ s a j)
      | _ => .ref (gR s a j)) = _
    rw [if_neg (fun z => ha z.1)]
theorem fvl_ref {s : zS} {a c k : Nat} (h1 : zty c k ≠ .int) (h2 : zty c k ≠ .long) : fvl s a c k = .ref (gR s a k) := by
  unfold fvl
  split <;> first | (exact absurd (by assumption) h1) | (exact absurd (by assumption) h2) | rfl
theorem up_fR {s : zS} {q c k x : Nat} (h : gD s q = c + 4) (h1 : zty c k ≠ .int) (h2 : zty c k ≠ .long) : zup (hOf s) q (.inr (c + 1, (fls s q c).set k (.ref x))) = hOf (sR s q k x) := by
  refine up_O h rfl rfl rfl rfl rfl ?_ ?_ ?_
  · rw [fvl_ref h1 h2]
    show Value.ref (if q = q ∧ k = k then x else gR s q k) = _
    rw [if_pos ⟨rfl, rfl⟩]
  · intro c j hj
    unfold fvl
    show (match zty c j with
      | .int => Value.int (gI s q j)
      | .long => .long (gJ s q j)
      | _ => .ref (if q = q ∧ j = k then x else gR s q j)) = _
    rw [if_neg (fun z => hj z.2)]
  · intro a c j ha
    unfold fvl
    show (match zty c j with
      | .int => Value.int (gI s a j)
      | .long => .long (gJ s a j)
      | _ => .ref (if a = q ∧ j = k then x else gR s a j)) = _
    rw [if_neg (fun z => ha z.1)]
