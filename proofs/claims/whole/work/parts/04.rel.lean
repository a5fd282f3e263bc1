/-! THE SMALL MACHINE'S HEAP BESIDE THE REAL ONE -/
/-- where the law's own cells begin; the cells that were there; the classes, their slots, the array classes; the heap at the law's start -/
abbrev zG : Type := Nat × (Nat → Nat) × (Nat → ClassId) × (Nat → Nat → Nat) × (Nat → ClassId) × Heap
def zb0 (G : zG) : Nat := G.1
def zet (G : zG) : Nat → Nat := G.2.1
def zdC (G : zG) : Nat → ClassId := G.2.2.1
def zdI (G : zG) : Nat → Nat → Nat := G.2.2.2.1
def zdA (G : zG) : Nat → ClassId := G.2.2.2.2.1
def zH0 (G : zG) : Heap := G.2.2.2.2.2
def zad (G : zG) (i : Nat) : Nat := if i < 16 then zet G i else zb0 G + (i - 16)
def zv (G : zG) (v : Value) : Value := match v with
  | .ref a => .ref (zad G a)
  | .int x => .int x
  | .long x => .long x
  | .float x => .float x
  | .double x => .double x
  | .null => .null
  | .retAddr x => .retAddr x
def zva (G : zG) (x : vp_A) : vp_A := (x.1, match x.2 with
  | .inl f => .inl f
  | .inr (.inl f) => .inr (.inl f)
  | .inr (.inr (.inl f)) => .inr (.inr (.inl f))
  | .inr (.inr (.inr (.inl f))) => .inr (.inr (.inr (.inl f)))
  | .inr (.inr (.inr (.inr f))) => .inr (.inr (.inr (.inr (fun j => (f j).map (zad G))))))
def zat (G : zG) (i : Nat) (c : zC) (H : Heap) : Prop := match c with
  | .inl (k, x) => H[zad G i]? = some (vp_cell (zdA G k) (zva G x))
  | .inr (0, _) => True
  | .inr (ci + 1, fs) => ∃ r : vw_C, zcl[ci]? = some r ∧ fs.length = r.2.2 ∧ t_OB (zad G i) (zdC G ci) r.2.2 (zdI G ci) H (vp_V (fs.map (zv G)))
def zat0 (G : zG) (U : State) (i : Nat) (c : zC) (H : Heap) : Prop := (∃ (n : Nat) (f : Nat → Int32), c = .inl (0, n, .inl f) ∧ va_X (zet G i) n f U H) ∨ ∃ fs, c = .inr (0, fs)
def zrel (G : zG) (U : State) (h : zH) (H : Heap) : Prop :=
  16 ≤ h.2 ∧ H.size + 16 = zb0 G + h.2 ∧ (∀ q : Nat, q < zb0 G → H[q]? = (zH0 G)[q]?) ∧ (∀ i : Nat, i < 16 → zet G i < zb0 G ∧ zat0 G U i (h.1 i) H) ∧ ∀ i : Nat, 16 ≤ i → zat G i (h.1 i) H
theorem zv_cat (G : zG) (v : Value) : (zv G v).category = v.category := by cases v <;> rfl
theorem zat.kept {G : zG} {i : Nat} {c : zC} {H H1 : Heap} (h : zat G i c H) (hq : H1[zad G i]? = H[zad G i]?) : zat G i c H1 := by
  match c, h with
  | .inl (k, x), h => exact hq.trans h
  | .inr (0, _), _ => trivial
  | .inr (ci + 1, fs), ⟨r, h1, h2, h3⟩ => exact ⟨r, h1, h2, h3.kept hq⟩
theorem zat0.kept {G : zG} {U : State} {i : Nat} {c : zC} {H H1 : Heap} (h : zat0 G U i c H) (hq : H1[zet G i]? = H[zet G i]?) : zat0 G U i c H1 := by
  rcases h with ⟨n, f, e, h⟩ | h
  · exact Or.inl ⟨n, f, e, va_X.kept h hq⟩
  · exact Or.inr h
theorem zat0.moved {G : zG} {u U : State} {i : Nat} {c : zC} {H : Heap} (hvm : u.vm.Alike U.vm) (h : zat0 G u i c H) : zat0 G U i c H := by
  rcases h with ⟨n, f, e, h⟩ | h
  · exact Or.inl ⟨n, f, e, va_X.moved hvm h⟩
  · exact Or.inr h
theorem zat.lt {G : zG} {i : Nat} {c : zC} {H : Heap} (h : zat G i c H) : (∃ fs, c = .inr (0, fs)) ∨ zad G i < H.size := by
  match c, h with
  | .inl (k, x), h => exact Or.inr (Array.getElem?_eq_some_iff.mp h).1
  | .inr (0, fs), _ => exact Or.inl ⟨fs, rfl⟩
  | .inr (ci + 1, fs), ⟨r, h1, h2, h3⟩ =>
    obtain ⟨ce, h4, -⟩ := h3
    exact Or.inr (Array.getElem?_eq_some_iff.mp h4).1
theorem zad_hi {G : zG} {i : Nat} (h : 16 ≤ i) : zad G i = zb0 G + (i - 16) := by
  unfold zad
  rw [if_neg (by omega)]
theorem zrel.moved {G : zG} {u U : State} {h : zH} {H : Heap} (hvm : u.vm.Alike U.vm) (hr : zrel G u h H) : zrel G U h H :=
  ⟨hr.1, hr.2.1, hr.2.2.1, fun i hi => ⟨(hr.2.2.2.1 i hi).1, (hr.2.2.2.1 i hi).2.moved hvm⟩, hr.2.2.2.2⟩
theorem zrel.put {G : zG} {U : State} {h : zH} {H H1 : Heap} {a : Nat} {c : zC} (hr : zrel G U h H) (ha : 16 ≤ a) (hs : H1.size = H.size) (ho : ∀ q : Nat, q ≠ zad G a → H1[q]? = H[q]?) (hc : zat G a c H1) : zrel G U (zup h a c) H1 := by
  obtain ⟨h1, h2, h3, h4, h5⟩ := hr
  have e := zad_hi (G := G) ha
  refine ⟨h1, by rw [hs]; exact h2, fun q hq => by rw [ho q (by omega)]; exact h3 q hq, fun i hi => ?_, fun i hi => ?_⟩
  · have hne : i ≠ a := by omega
    refine ⟨(h4 i hi).1, ?_⟩
    show zat0 G U i (if i = a then c else h.1 i) H1
    rw [if_neg hne]
    exact (h4 i hi).2.kept (ho _ (by have := (h4 i hi).1; omega))
  · show zat G i (if i = a then c else h.1 i) H1
    by_cases hne : i = a
    · subst hne
      rw [if_pos rfl]
      exact hc
    · rw [if_neg hne]
      exact (h5 i hi).kept (ho _ (by rw [e, zad_hi hi]; omega))
theorem zrel.top {G : zG} {U : State} {h : zH} {H : Heap} (hr : zrel G U h H) : zad G h.2 = H.size := by
  obtain ⟨h1, h2, -⟩ := hr
  rw [zad_hi h1]
  omega
theorem zrel.new {G : zG} {U : State} {h : zH} {H H1 : Heap} {c : zC} (hr : zrel G U h H) (hs : H1.size = H.size + 1) (ho : ∀ q : Nat, q < H.size → H1[q]? = H[q]?) (hc : zat G h.2 c H1) : zrel G U (znew h c) H1 := by
  have ht := hr.top
  obtain ⟨h1, h2, h3, h4, h5⟩ := hr
  refine ⟨by show 16 ≤ h.2 + 1; omega, by show H1.size + 16 = zb0 G + (h.2 + 1); omega, fun q hq => by rw [ho q (by omega)]; exact h3 q hq, fun i hi => ?_, fun i hi => ?_⟩
  · refine ⟨(h4 i hi).1, ?_⟩
    show zat0 G U i (if i = h.2 then c else h.1 i) H1
    rw [if_neg (by omega)]
    exact (h4 i hi).2.kept (ho _ (by have := (h4 i hi).1; omega))
  · show zat G i (if i = h.2 then c else h.1 i) H1
    by_cases hne : i = h.2
    · subst hne
      rw [if_pos rfl]
      exact hc
    · rw [if_neg hne]
      rcases (h5 i hi).lt with ⟨fs, e⟩ | hl
      · rw [e]; trivial
      · exact (h5 i hi).kept (ho _ hl)
/-! the tables' words that every method takes along -/
def zGW : List Cond := lw_tbl.filter goodWord
theorem zGW_in {w : Cond} (h : w ∈ lw_tbl) (hg : goodWord w = true) : w ∈ zGW := List.mem_filter.mpr ⟨h, hg⟩
theorem zGW_good (cs : List Cond) (h : ∀ w ∈ cs, w ∈ zGW) (big : List Cond) (hb : ∀ w ∈ zGW, w ∈ big) : GoodIn big cs := fun w hw => ⟨hb w (h w hw), good_of_word (List.mem_filter.mp (h w hw)).2⟩
/-! locals -/
def zlv (G : zG) (L : zL) : List (Nat × Value) := L.map (fun q => (q.1, zv G q.2))
theorem zlv_get {G : zG} {L : zL} {i nL : Nat} {v : Value} {ls : Array Slot} (h : zget L i = some v) (hl : lv_has ls nL (zlv G L)) : ls[i]? = some (.val (zv G v)) := by
  unfold zget at h
  cases hf : L.find? (fun q => q.1 == i) with
  | none => rw [hf] at h; cases h
  | some q =>
    rw [hf] at h
    have h1 := List.mem_of_find?_eq_some hf
    have h2 := List.find?_some hf
    simp at h2
    have h3 : q.2 = v := Option.some.inj h
    have := hl.2.2 (q.1, zv G q.2) (List.mem_map.mpr ⟨q, h1, rfl⟩)
    rw [h2, h3] at this
    exact this
theorem zins_mem {i : Nat} {v : Value} {q : Nat × Value} : ∀ {L : zL}, q ∈ zins i v L → q = (i, v) ∨ q ∈ L
  | [], h => by
    rw [zins] at h
    exact Or.inl (List.mem_singleton.mp h)
  | a :: r, h => by
    rw [zins] at h
    split at h
    · rcases List.mem_cons.mp h with h | h
      · exact Or.inl h
      · exact Or.inr h
    · rcases List.mem_cons.mp h with h | h
      · exact Or.inr (List.mem_cons.mpr (Or.inl h))
      · rcases zins_mem h with h | h
        · exact Or.inl h
        · exact Or.inr (List.mem_cons.mpr (Or.inr h))
theorem zlv_set1 {G : zG} {L : zL} {i nL : Nat} {v : Value} {ls : Array Slot} (h : lv_has ls nL ((i, zv G v) :: (zlv G L).filter (fun q => !(q.1 == i) && !(q.1 + 1 == i && q.2.category == 2)))) : lv_has ls nL (zlv G (zset1 L i v)) := by
  refine ⟨h.1, h.2.1, fun q hq => ?_⟩
  obtain ⟨x, hx, rfl⟩ := List.mem_map.mp hq
  rcases zins_mem hx with rfl | hx
  · exact h.2.2 _ List.mem_cons_self
  · obtain ⟨h1, h2⟩ := List.mem_filter.mp hx
    refine h.2.2 _ (List.mem_cons_of_mem _ (List.mem_filter.mpr ⟨List.mem_map.mpr ⟨x, h1, rfl⟩, ?_⟩))
    show (!(x.1 == i) && !(x.1 + 1 == i && (zv G x.2).category == 2)) = true
    rw [zv_cat]
    exact h2
theorem zlv_set2 {G : zG} {L : zL} {i nL : Nat} {v : Value} {ls : Array Slot} (h : lv_has ls nL ((i, zv G v) :: (zlv G L).filter (fun q => !(q.1 == i) && (!(q.1 == i + 1) && !(q.1 + 1 == i && q.2.category == 2))))) : lv_has ls nL (zlv G (zset2 L i v)) := by
  refine ⟨h.1, h.2.1, fun q hq => ?_⟩
  obtain ⟨x, hx, rfl⟩ := List.mem_map.mp hq
  rcases zins_mem hx with rfl | hx
  · exact h.2.2 _ List.mem_cons_self
  · obtain ⟨h1, h2⟩ := List.mem_filter.mp hx
    refine h.2.2 _ (List.mem_cons_of_mem _ (List.mem_filter.mpr ⟨List.mem_map.mpr ⟨x, h1, rfl⟩, ?_⟩))
    show (!(x.1 == i) && (!(x.1 == i + 1) && !(x.1 + 1 == i && (zv G x.2).category == 2))) = true
    rw [zv_cat]
    exact h2
theorem zlv_filter {G : zG} {L : zL} {nL : Nat} {ls : Array Slot} (p : Nat × Value → Bool) (h : lv_has ls nL (zlv G L)) : lv_has ls nL (zlv G (L.filter p)) := by
  refine ⟨h.1, h.2.1, fun q hq => ?_⟩
  obtain ⟨x, hx, rfl⟩ := List.mem_map.mp hq
  exact h.2.2 _ (List.mem_map.mpr ⟨x, (List.mem_filter.mp hx).1, rfl⟩)
section ZS
variable {p : Program} {l : Launch} {e : Env} {R : Room} {s : State} {m : MethodId} {args : Array Value} {below : List Frame} {meth : Method} {c : Code} {Qf : State → Prop} {G : zG} {cc : ByteArray} {n pc : Nat} {K J : zK} {L : zL} {S : List Value} {h : zH} {kc ks : Nat}
/-- the real machine at a point that the small one tells of -/
def zsim (p : Program) (l : Launch) (e : Env) (R : Room) (s : State) (m : MethodId) (args : Array Value) (below : List Frame) (meth : Method) (c : Code) (G : zG) (n : Nat) (Qf : State → Prop) (pc : Nat) : zK := fun L S h kc ks =>
  ∀ (H : Heap) (locs : List Loc) (ls : Array Slot), zrel G s h H → (∀ x ∈ locs, zb0 G ≤ x.base) → lv_has ls n (zlv G L) → W p l e R s m args below meth c H locs kc ks Qf (F0 m pc ls (S.map (zv G)))
def zimp (K K' : zK) : Prop := ∀ L S h kc ks, K L S h kc ks → K' L S h kc ks
theorem zs_iconst (hx : p.tables.exec = Jvm.exec) (hb : c.code = cc) {i : Int} (hd : decode cc pc = .ok (.iconst i, 1)) (hK : zimp K (zsim p l e R s m args below meth c G n Qf (pc + 1))) (hst : K L (.int (Int32.ofInt i) :: S) h kc ks) : zsim p l e R s m args below meth c G n Qf pc L S h kc ks := by
  intro H locs ls hr hl hv
  exact lv_iconst hx hb hd rfl (hK _ _ _ _ _ hst H locs ls hr hl hv)
theorem zs_bipush (hx : p.tables.exec = Jvm.exec) (hb : c.code = cc) {i : Int} (hd : decode cc pc = .ok (.bipush i, 2)) (hK : zimp K (zsim p l e R s m args below meth c G n Qf (pc + 2))) (hst : K L (.int (Int8.ofInt i).toInt32 :: S) h kc ks) : zsim p l e R s m args below meth c G n Qf pc L S h kc ks := by
  intro H locs ls hr hl hv
  exact lv_bipush hx hb hd rfl (hK _ _ _ _ _ hst H locs ls hr hl hv)
theorem zs_sipush (hx : p.tables.exec = Jvm.exec) (hb : c.code = cc) {i : Int} (hd : decode cc pc = .ok (.sipush i, 3)) (hK : zimp K (zsim p l e R s m args below meth c G n Qf (pc + 3))) (hst : K L (.int (Int16.ofInt i).toInt32 :: S) h kc ks) : zsim p l e R s m args below meth c G n Qf pc L S h kc ks := by
  intro H locs ls hr hl hv
  exact lv_sipush hx hb hd rfl (hK _ _ _ _ _ hst H locs ls hr hl hv)
theorem zs_lconst (hx : p.tables.exec = Jvm.exec) (hb : c.code = cc) {i : Fin 2} (hd : decode cc pc = .ok (.lconst i, 1)) (hK : zimp K (zsim p l e R s m args below meth c G n Qf (pc + 1))) (hst : K L (.long (Int64.ofNat (i : Nat)) :: S) h kc ks) : zsim p l e R s m args below meth c G n Qf pc L S h kc ks := by
  intro H locs ls hr hl hv
  exact lv_lconst hx hb hd rfl (hK _ _ _ _ _ hst H locs ls hr hl hv)
theorem zs_iload_n (hx : p.tables.exec = Jvm.exec) (hb : c.code = cc) {i : Fin 4} (hd : decode cc pc = .ok (.iload_n i, 1)) (hK : zimp K (zsim p l e R s m args below meth c G n Qf (pc + 1))) (hst : zgi L i fun x => K L (.int x :: S) h kc ks) : zsim p l e R s m args below meth c G n Qf pc L S h kc ks := by
  intro H locs ls hr hl hv
  unfold zgi at hst
  split at hst
  · rename_i x hg
    exact lv_iload_n hx hb hd rfl (zlv_get hg hv) (hK _ _ _ _ _ hst H locs ls hr hl hv)
  · exact hst.elim
theorem zs_iload (hx : p.tables.exec = Jvm.exec) (hb : c.code = cc) {i : Nat} (hd : decode cc pc = .ok (.iload i, 2)) (hK : zimp K (zsim p l e R s m args below meth c G n Qf (pc + 2))) (hst : zgi L i fun x => K L (.int x :: S) h kc ks) : zsim p l e R s m args below meth c G n Qf pc L S h kc ks := by
  intro H locs ls hr hl hv
  unfold zgi at hst
  split at hst
  · rename_i x hg
    exact lv_iload hx hb hd (zlv_get hg hv) (hK _ _ _ _ _ hst H locs ls hr hl hv)
  · exact hst.elim
theorem zs_lload_n (hx : p.tables.exec = Jvm.exec) (hb : c.code = cc) {i : Fin 4} (hd : decode cc pc = .ok (.lload_n i, 1)) (hK : zimp K (zsim p l e R s m args below meth c G n Qf (pc + 1))) (hst : zgl L i fun x => K L (.long x :: S) h kc ks) : zsim p l e R s m args below meth c G n Qf pc L S h kc ks := by
  intro H locs ls hr hl hv
  unfold zgl at hst
  split at hst
  · rename_i x hg
    exact lv_lload_n hx hb hd rfl (zlv_get hg hv) (hK _ _ _ _ _ hst H locs ls hr hl hv)
  · exact hst.elim
theorem zs_lload (hx : p.tables.exec = Jvm.exec) (hb : c.code = cc) {i : Nat} (hd : decode cc pc = .ok (.lload i, 2)) (hK : zimp K (zsim p l e R s m args below meth c G n Qf (pc + 2))) (hst : zgl L i fun x => K L (.long x :: S) h kc ks) : zsim p l e R s m args below meth c G n Qf pc L S h kc ks := by
  intro H locs ls hr hl hv
  unfold zgl at hst
  split at hst
  · rename_i x hg
    exact lv_lload hx hb hd (zlv_get hg hv) (hK _ _ _ _ _ hst H locs ls hr hl hv)
  · exact hst.elim
theorem zs_aload_n (hx : p.tables.exec = Jvm.exec) (hb : c.code = cc) {i : Fin 4} (hd : decode cc pc = .ok (.aload_n i, 1)) (hK : zimp K (zsim p l e R s m args below meth c G n Qf (pc + 1))) (hst : zgr L i fun x => K L (.ref x :: S) h kc ks) : zsim p l e R s m args below meth c G n Qf pc L S h kc ks := by
  intro H locs ls hr hl hv
  unfold zgr at hst
  split at hst
  · rename_i x hg
    exact lv_aload_n hx hb hd rfl (zlv_get hg hv) (hK _ _ _ _ _ hst H locs ls hr hl hv)
  · exact hst.elim
theorem zs_aload (hx : p.tables.exec = Jvm.exec) (hb : c.code = cc) {i : Nat} (hd : decode cc pc = .ok (.aload i, 2)) (hK : zimp K (zsim p l e R s m args below meth c G n Qf (pc + 2))) (hst : zgr L i fun x => K L (.ref x :: S) h kc ks) : zsim p l e R s m args below meth c G n Qf pc L S h kc ks := by
  intro H locs ls hr hl hv
  unfold zgr at hst
  split at hst
  · rename_i x hg
    exact lv_aload hx hb hd (zlv_get hg hv) (hK _ _ _ _ _ hst H locs ls hr hl hv)
  · exact hst.elim
theorem zs_istore_n (hx : p.tables.exec = Jvm.exec) (hb : c.code = cc) {i : Fin 4} (hi : (i : Nat) < n) (hd : decode cc pc = .ok (.istore_n i, 1)) (hK : zimp K (zsim p l e R s m args below meth c G n Qf (pc + 1))) (hst : zi1 S fun x S => K (zset1 L i (.int x)) S h kc ks) : zsim p l e R s m args below meth c G n Qf pc L S h kc ks := by
  intro H locs ls hr hl hv
  match S, hst with
  | .int x :: S, hst => exact lv_istore_n hx hb hd rfl hv hi rfl (fun ls2 hv2 => hK _ _ _ _ _ hst H locs ls2 hr hl (zlv_set1 (v := .int x) hv2))
theorem zs_istore (hx : p.tables.exec = Jvm.exec) (hb : c.code = cc) {i : Nat} (hi : (i : Nat) < n) (hd : decode cc pc = .ok (.istore i, 2)) (hK : zimp K (zsim p l e R s m args below meth c G n Qf (pc + 2))) (hst : zi1 S fun x S => K (zset1 L i (.int x)) S h kc ks) : zsim p l e R s m args below meth c G n Qf pc L S h kc ks := by
  intro H locs ls hr hl hv
  match S, hst with
  | .int x :: S, hst => exact lv_istore hx hb hd hv hi rfl (fun ls2 hv2 => hK _ _ _ _ _ hst H locs ls2 hr hl (zlv_set1 (v := .int x) hv2))
theorem zs_lstore_n (hx : p.tables.exec = Jvm.exec) (hb : c.code = cc) {i : Fin 4} (hi : (i : Nat) + 1 < n) (hd : decode cc pc = .ok (.lstore_n i, 1)) (hK : zimp K (zsim p l e R s m args below meth c G n Qf (pc + 1))) (hst : zl1 S fun x S => K (zset2 L i (.long x)) S h kc ks) : zsim p l e R s m args below meth c G n Qf pc L S h kc ks := by
  intro H locs ls hr hl hv
  match S, hst with
  | .long x :: S, hst => exact lv_lstore_n hx hb hd rfl hv hi rfl (fun ls2 hv2 => hK _ _ _ _ _ hst H locs ls2 hr hl (zlv_set2 (v := .long x) hv2))
theorem zs_lstore (hx : p.tables.exec = Jvm.exec) (hb : c.code = cc) {i : Nat} (hi : (i : Nat) + 1 < n) (hd : decode cc pc = .ok (.lstore i, 2)) (hK : zimp K (zsim p l e R s m args below meth c G n Qf (pc + 2))) (hst : zl1 S fun x S => K (zset2 L i (.long x)) S h kc ks) : zsim p l e R s m args below meth c G n Qf pc L S h kc ks := by
  intro H locs ls hr hl hv
  match S, hst with
  | .long x :: S, hst => exact lv_lstore hx hb hd hv hi rfl (fun ls2 hv2 => hK _ _ _ _ _ hst H locs ls2 hr hl (zlv_set2 (v := .long x) hv2))
theorem zs_astore_n (hx : p.tables.exec = Jvm.exec) (hb : c.code = cc) {i : Fin 4} (hi : (i : Nat) < n) (hd : decode cc pc = .ok (.astore_n i, 1)) (hK : zimp K (zsim p l e R s m args below meth c G n Qf (pc + 1))) (hst : zr1 S fun x S => K (zset1 L i (.ref x)) S h kc ks) : zsim p l e R s m args below meth c G n Qf pc L S h kc ks := by
  intro H locs ls hr hl hv
  match S, hst with
  | .ref x :: S, hst => exact lv_astore_n hx hb hd rfl hv hi rfl (fun ls2 hv2 => hK _ _ _ _ _ hst H locs ls2 hr hl (zlv_set1 (v := .ref x) hv2))
theorem zs_astore (hx : p.tables.exec = Jvm.exec) (hb : c.code = cc) {i : Nat} (hi : (i : Nat) < n) (hd : decode cc pc = .ok (.astore i, 2)) (hK : zimp K (zsim p l e R s m args below meth c G n Qf (pc + 2))) (hst : zr1 S fun x S => K (zset1 L i (.ref x)) S h kc ks) : zsim p l e R s m args below meth c G n Qf pc L S h kc ks := by
  intro H locs ls hr hl hv
  match S, hst with
  | .ref x :: S, hst => exact lv_astore hx hb hd hv hi rfl (fun ls2 hv2 => hK _ _ _ _ _ hst H locs ls2 hr hl (zlv_set1 (v := .ref x) hv2))
theorem zs_iinc (hx : p.tables.exec = Jvm.exec) (hb : c.code = cc) {i : Nat} {z : Int} (hi : i < n) (hd : decode cc pc = .ok (.iinc i z, 3)) (hK : zimp K (zsim p l e R s m args below meth c G n Qf (pc + 3))) (hst : zgi L i fun x => K (zset1 L i (.int (x + Int32.ofInt z))) S h kc ks) : zsim p l e R s m args below meth c G n Qf pc L S h kc ks := by
  intro H locs ls hr hl hv
  unfold zgi at hst
  split at hst
  · rename_i x hg
    have hm := zlv_get hg hv
    obtain ⟨k, hk⟩ : ∃ k : Nat, (zlv G L)[k]? = some (i, .int x) := by
      unfold zget at hg
      cases hf : L.find? (fun q => q.1 == i) with
      | none => rw [hf] at hg; cases hg
      | some q =>
        rw [hf] at hg
        have h1 := List.mem_of_find?_eq_some hf
        have h2 := List.find?_some hf
        simp at h2
        have h3 : q.2 = .int x := Option.some.inj hg
        obtain ⟨k, hk⟩ := List.getElem?_of_mem h1
        refine ⟨k, ?_⟩
        unfold zlv
        rw [List.getElem?_map, hk]
        show some (q.1, zv G q.2) = _
        rw [h2, h3]
        rfl
    exact lv_iinc hx hb hd hv hk rfl hi rfl (fun ls2 hv2 => hK _ _ _ _ _ hst H locs ls2 hr hl (zlv_set1 (v := .int (x + Int32.ofInt z)) hv2))
  · exact hst.elim
theorem zs_iadd (hx : p.tables.exec = Jvm.exec) (hb : c.code = cc) (hd : decode cc pc = .ok (.iadd, 1)) (hK : zimp K (zsim p l e R s m args below meth c G n Qf (pc + 1))) (hst : zi2 S fun x y S => K L (.int (x + y) :: S) h kc ks) : zsim p l e R s m args below meth c G n Qf pc L S h kc ks := by
  intro H locs ls hr hl hv
  match S, hst with
  | .int y :: .int x :: S, hst => exact lv_iadd hx hb hd (hK _ _ _ _ _ hst H locs ls hr hl hv)
theorem zs_isub (hx : p.tables.exec = Jvm.exec) (hb : c.code = cc) (hd : decode cc pc = .ok (.isub, 1)) (hK : zimp K (zsim p l e R s m args below meth c G n Qf (pc + 1))) (hst : zi2 S fun x y S => K L (.int (x - y) :: S) h kc ks) : zsim p l e R s m args below meth c G n Qf pc L S h kc ks := by
  intro H locs ls hr hl hv
  match S, hst with
  | .int y :: .int x :: S, hst => exact lv_isub hx hb hd (hK _ _ _ _ _ hst H locs ls hr hl hv)
theorem zs_imul (hx : p.tables.exec = Jvm.exec) (hb : c.code = cc) (hd : decode cc pc = .ok (.imul, 1)) (hK : zimp K (zsim p l e R s m args below meth c G n Qf (pc + 1))) (hst : zi2 S fun x y S => K L (.int (x * y) :: S) h kc ks) : zsim p l e R s m args below meth c G n Qf pc L S h kc ks := by
  intro H locs ls hr hl hv
  match S, hst with
  | .int y :: .int x :: S, hst => exact lv_imul hx hb hd (hK _ _ _ _ _ hst H locs ls hr hl hv)
theorem zs_iand (hx : p.tables.exec = Jvm.exec) (hb : c.code = cc) (hd : decode cc pc = .ok (.iand, 1)) (hK : zimp K (zsim p l e R s m args below meth c G n Qf (pc + 1))) (hst : zi2 S fun x y S => K L (.int (x &&& y) :: S) h kc ks) : zsim p l e R s m args below meth c G n Qf pc L S h kc ks := by
  intro H locs ls hr hl hv
  match S, hst with
  | .int y :: .int x :: S, hst => exact lv_iand hx hb hd (hK _ _ _ _ _ hst H locs ls hr hl hv)
theorem zs_ior (hx : p.tables.exec = Jvm.exec) (hb : c.code = cc) (hd : decode cc pc = .ok (.ior, 1)) (hK : zimp K (zsim p l e R s m args below meth c G n Qf (pc + 1))) (hst : zi2 S fun x y S => K L (.int (x ||| y) :: S) h kc ks) : zsim p l e R s m args below meth c G n Qf pc L S h kc ks := by
  intro H locs ls hr hl hv
  match S, hst with
  | .int y :: .int x :: S, hst => exact lv_ior hx hb hd (hK _ _ _ _ _ hst H locs ls hr hl hv)
theorem zs_ixor (hx : p.tables.exec = Jvm.exec) (hb : c.code = cc) (hd : decode cc pc = .ok (.ixor, 1)) (hK : zimp K (zsim p l e R s m args below meth c G n Qf (pc + 1))) (hst : zi2 S fun x y S => K L (.int (x ^^^ y) :: S) h kc ks) : zsim p l e R s m args below meth c G n Qf pc L S h kc ks := by
  intro H locs ls hr hl hv
  match S, hst with
  | .int y :: .int x :: S, hst => exact lv_ixor hx hb hd (hK _ _ _ _ _ hst H locs ls hr hl hv)
theorem zs_ishl (hx : p.tables.exec = Jvm.exec) (hb : c.code = cc) (hd : decode cc pc = .ok (.ishl, 1)) (hK : zimp K (zsim p l e R s m args below meth c G n Qf (pc + 1))) (hst : zi2 S fun x y S => K L (.int (x <<< (y &&& 31)) :: S) h kc ks) : zsim p l e R s m args below meth c G n Qf pc L S h kc ks := by
  intro H locs ls hr hl hv
  match S, hst with
  | .int y :: .int x :: S, hst => exact lv_ishl hx hb hd (hK _ _ _ _ _ hst H locs ls hr hl hv)
theorem zs_ishr (hx : p.tables.exec = Jvm.exec) (hb : c.code = cc) (hd : decode cc pc = .ok (.ishr, 1)) (hK : zimp K (zsim p l e R s m args below meth c G n Qf (pc + 1))) (hst : zi2 S fun x y S => K L (.int (x >>> (y &&& 31)) :: S) h kc ks) : zsim p l e R s m args below meth c G n Qf pc L S h kc ks := by
  intro H locs ls hr hl hv
  match S, hst with
  | .int y :: .int x :: S, hst => exact lv_ishr hx hb hd (hK _ _ _ _ _ hst H locs ls hr hl hv)
theorem zs_idiv (hx : p.tables.exec = Jvm.exec) (hb : c.code = cc) (hd : decode cc pc = .ok (.idiv, 1)) (hK : zimp K (zsim p l e R s m args below meth c G n Qf (pc + 1))) (hst : zi2 S fun x y S => ¬ y = 0 ∧ K L (.int (x / y) :: S) h kc ks) : zsim p l e R s m args below meth c G n Qf pc L S h kc ks := by
  intro H locs ls hr hl hv
  match S, hst with
  | .int y :: .int x :: S, hst => exact lv_idiv hx hb hd hst.1 (hK _ _ _ _ _ hst.2 H locs ls hr hl hv)
theorem zs_irem (hx : p.tables.exec = Jvm.exec) (hb : c.code = cc) (hd : decode cc pc = .ok (.irem, 1)) (hK : zimp K (zsim p l e R s m args below meth c G n Qf (pc + 1))) (hst : zi2 S fun x y S => ¬ y = 0 ∧ K L (.int (x - x / y * y) :: S) h kc ks) : zsim p l e R s m args below meth c G n Qf pc L S h kc ks := by
  intro H locs ls hr hl hv
  match S, hst with
  | .int y :: .int x :: S, hst => exact lv_irem hx hb hd hst.1 (hK _ _ _ _ _ hst.2 H locs ls hr hl hv)
theorem zs_iushr (hx : p.tables.exec = Jvm.exec) (hb : c.code = cc) (hd : decode cc pc = .ok (.iushr, 1)) (hK : zimp K (zsim p l e R s m args below meth c G n Qf (pc + 1))) (hst : zi2 S fun x y S => K L (.int (x.toUInt32 >>> (y.toUInt32 &&& Int32.toUInt32 31)).toInt32 :: S) h kc ks) : zsim p l e R s m args below meth c G n Qf pc L S h kc ks := by
  intro H locs ls hr hl hv
  match S, hst with
  | .int y :: .int x :: S, hst => exact lv_iushr hx hb hd rfl (hK _ _ _ _ _ hst H locs ls hr hl hv)
theorem zs_ineg (hx : p.tables.exec = Jvm.exec) (hb : c.code = cc) (hd : decode cc pc = .ok (.ineg, 1)) (hK : zimp K (zsim p l e R s m args below meth c G n Qf (pc + 1))) (hst : zi1 S fun x S => K L (.int (-x) :: S) h kc ks) : zsim p l e R s m args below meth c G n Qf pc L S h kc ks := by
  intro H locs ls hr hl hv
  match S, hst with
  | .int x :: S, hst => exact lv_ineg hx hb hd (hK _ _ _ _ _ hst H locs ls hr hl hv)
theorem zs_ladd (hx : p.tables.exec = Jvm.exec) (hb : c.code = cc) (hd : decode cc pc = .ok (.ladd, 1)) (hK : zimp K (zsim p l e R s m args below meth c G n Qf (pc + 1))) (hst : zl2 S fun x y S => K L (.long (x + y) :: S) h kc ks) : zsim p l e R s m args below meth c G n Qf pc L S h kc ks := by
  intro H locs ls hr hl hv
  match S, hst with
  | .long y :: .long x :: S, hst => exact lv_ladd hx hb hd (hK _ _ _ _ _ hst H locs ls hr hl hv)
theorem zs_lsub (hx : p.tables.exec = Jvm.exec) (hb : c.code = cc) (hd : decode cc pc = .ok (.lsub, 1)) (hK : zimp K (zsim p l e R s m args below meth c G n Qf (pc + 1))) (hst : zl2 S fun x y S => K L (.long (x - y) :: S) h kc ks) : zsim p l e R s m args below meth c G n Qf pc L S h kc ks := by
  intro H locs ls hr hl hv
  match S, hst with
  | .long y :: .long x :: S, hst => exact lv_lsub hx hb hd (hK _ _ _ _ _ hst H locs ls hr hl hv)
theorem zs_land (hx : p.tables.exec = Jvm.exec) (hb : c.code = cc) (hd : decode cc pc = .ok (.land, 1)) (hK : zimp K (zsim p l e R s m args below meth c G n Qf (pc + 1))) (hst : zl2 S fun x y S => K L (.long (x &&& y) :: S) h kc ks) : zsim p l e R s m args below meth c G n Qf pc L S h kc ks := by
  intro H locs ls hr hl hv
  match S, hst with
  | .long y :: .long x :: S, hst => exact lv_land hx hb hd (hK _ _ _ _ _ hst H locs ls hr hl hv)
theorem zs_lor (hx : p.tables.exec = Jvm.exec) (hb : c.code = cc) (hd : decode cc pc = .ok (.lor, 1)) (hK : zimp K (zsim p l e R s m args below meth c G n Qf (pc + 1))) (hst : zl2 S fun x y S => K L (.long (x ||| y) :: S) h kc ks) : zsim p l e R s m args below meth c G n Qf pc L S h kc ks := by
  intro H locs ls hr hl hv
  match S, hst with
  | .long y :: .long x :: S, hst => exact lv_lor hx hb hd (hK _ _ _ _ _ hst H locs ls hr hl hv)
theorem zs_lxor (hx : p.tables.exec = Jvm.exec) (hb : c.code = cc) (hd : decode cc pc = .ok (.lxor, 1)) (hK : zimp K (zsim p l e R s m args below meth c G n Qf (pc + 1))) (hst : zl2 S fun x y S => K L (.long (x ^^^ y) :: S) h kc ks) : zsim p l e R s m args below meth c G n Qf pc L S h kc ks := by
  intro H locs ls hr hl hv
  match S, hst with
  | .long y :: .long x :: S, hst => exact lv_lxor hx hb hd (hK _ _ _ _ _ hst H locs ls hr hl hv)
theorem zs_lneg (hx : p.tables.exec = Jvm.exec) (hb : c.code = cc) (hd : decode cc pc = .ok (.lneg, 1)) (hK : zimp K (zsim p l e R s m args below meth c G n Qf (pc + 1))) (hst : zl1 S fun x S => K L (.long (-x) :: S) h kc ks) : zsim p l e R s m args below meth c G n Qf pc L S h kc ks := by
  intro H locs ls hr hl hv
  match S, hst with
  | .long x :: S, hst => exact lv_lneg hx hb hd (hK _ _ _ _ _ hst H locs ls hr hl hv)
theorem zs_lshl (hx : p.tables.exec = Jvm.exec) (hb : c.code = cc) (hd : decode cc pc = .ok (.lshl, 1)) (hK : zimp K (zsim p l e R s m args below meth c G n Qf (pc + 1))) (hst : zil S fun x y S => K L (.long (x <<< (y.toInt64 &&& 63)) :: S) h kc ks) : zsim p l e R s m args below meth c G n Qf pc L S h kc ks := by
  intro H locs ls hr hl hv
  match S, hst with
  | .int y :: .long x :: S, hst => exact lv_lshl hx hb hd rfl (hK _ _ _ _ _ hst H locs ls hr hl hv)
theorem zs_lushr (hx : p.tables.exec = Jvm.exec) (hb : c.code = cc) (hd : decode cc pc = .ok (.lushr, 1)) (hK : zimp K (zsim p l e R s m args below meth c G n Qf (pc + 1))) (hst : zil S fun x y S => K L (.long (x.toUInt64 >>> (y.toInt64.toUInt64 &&& Int64.toUInt64 63)).toInt64 :: S) h kc ks) : zsim p l e R s m args below meth c G n Qf pc L S h kc ks := by
  intro H locs ls hr hl hv
  match S, hst with
  | .int y :: .long x :: S, hst => exact lv_lushr hx hb hd rfl (hK _ _ _ _ _ hst H locs ls hr hl hv)
theorem zs_i2l (hx : p.tables.exec = Jvm.exec) (hb : c.code = cc) (hd : decode cc pc = .ok (.i2l, 1)) (hK : zimp K (zsim p l e R s m args below meth c G n Qf (pc + 1))) (hst : zi1 S fun x S => K L (.long x.toInt64 :: S) h kc ks) : zsim p l e R s m args below meth c G n Qf pc L S h kc ks := by
  intro H locs ls hr hl hv
  match S, hst with
  | .int x :: S, hst => exact lv_i2l hx hb hd rfl (hK _ _ _ _ _ hst H locs ls hr hl hv)
theorem zs_l2i (hx : p.tables.exec = Jvm.exec) (hb : c.code = cc) (hd : decode cc pc = .ok (.l2i, 1)) (hK : zimp K (zsim p l e R s m args below meth c G n Qf (pc + 1))) (hst : zl1 S fun x S => K L (.int x.toInt32 :: S) h kc ks) : zsim p l e R s m args below meth c G n Qf pc L S h kc ks := by
  intro H locs ls hr hl hv
  match S, hst with
  | .long x :: S, hst => exact lv_l2i hx hb hd rfl (hK _ _ _ _ _ hst H locs ls hr hl hv)
theorem zs_lcmp (hx : p.tables.exec = Jvm.exec) (hb : c.code = cc) (hd : decode cc pc = .ok (.lcmp, 1)) (hK : zimp K (zsim p l e R s m args below meth c G n Qf (pc + 1))) (hst : zl2 S fun x y S => K L (.int (lg_cmp x y) :: S) h kc ks) : zsim p l e R s m args below meth c G n Qf pc L S h kc ks := by
  intro H locs ls hr hl hv
  match S, hst with
  | .long y :: .long x :: S, hst => exact W.lcmp hx hb hd (hK _ _ _ _ _ hst H locs ls hr hl hv)
theorem zs_dup (hx : p.tables.exec = Jvm.exec) (hb : c.code = cc) (hd : decode cc pc = .ok (.dup, 1)) (hK : zimp K (zsim p l e R s m args below meth c G n Qf (pc + 1))) (hst : zv1 S fun v S => v.category = 1 ∧ K L (v :: v :: S) h kc ks) : zsim p l e R s m args below meth c G n Qf pc L S h kc ks := by
  intro H locs ls hr hl hv
  match S, hst with
  | v :: S, hst => exact lv_dup hx hb hd ((zv_cat G v).trans hst.1) (hK _ _ _ _ _ hst.2 H locs ls hr hl hv)
theorem zs_dup2 (hx : p.tables.exec = Jvm.exec) (hb : c.code = cc) (hd : decode cc pc = .ok (.dup2, 1)) (hK : zimp K (zsim p l e R s m args below meth c G n Qf (pc + 1))) (hst : zv2 S fun v w S => v.category = 1 ∧ w.category = 1 ∧ K L (v :: w :: v :: w :: S) h kc ks) : zsim p l e R s m args below meth c G n Qf pc L S h kc ks := by
  intro H locs ls hr hl hv
  match S, hst with
  | v :: w :: S, hst => exact lv_dup2_11 hx hb hd ((zv_cat G v).trans hst.1) ((zv_cat G w).trans hst.2.1) (hK _ _ _ _ _ hst.2.2 H locs ls hr hl hv)
theorem zs_pop (hx : p.tables.exec = Jvm.exec) (hb : c.code = cc) (hd : decode cc pc = .ok (.pop, 1)) (hK : zimp K (zsim p l e R s m args below meth c G n Qf (pc + 1))) (hst : zv1 S fun v S => v.category = 1 ∧ K L S h kc ks) : zsim p l e R s m args below meth c G n Qf pc L S h kc ks := by
  intro H locs ls hr hl hv
  match S, hst with
  | v :: S, hst => exact lv_pop hx hb hd ((zv_cat G v).trans hst.1) (hK _ _ _ _ _ hst.2 H locs ls hr hl hv)
theorem zs_goto (hx : p.tables.exec = Jvm.exec) (hb : c.code = cc) {off : Int} (hd : decode cc pc = .ok (.goto off, 3)) (hJ : zimp J (zsim p l e R s m args below meth c G n Qf (ztg pc off))) (ht : (pc : Int) + off = (ztg pc off : Int)) (hst : J L S h kc ks) : zsim p l e R s m args below meth c G n Qf pc L S h kc ks := fun H locs ls hr hl hv => lv_goto hx hb hd ht (hJ _ _ _ _ _ hst H locs ls hr hl hv)
theorem zs_if_eq (hx : p.tables.exec = Jvm.exec) (hb : c.code = cc) {off : Int} (hJ : zimp J (zsim p l e R s m args below meth c G n Qf (ztg pc off))) (ht : (pc : Int) + off = (ztg pc off : Int)) (hd : decode cc pc = .ok (.ifCond .eq off, 3)) (hK : zimp K (zsim p l e R s m args below meth c G n Qf (pc + 3))) (hst : zi1 S fun x S => (x = 0 → J L S h kc ks) ∧ (¬ x = 0 → K L S h kc ks)) : zsim p l e R s m args below meth c G n Qf pc L S h kc ks := by
  intro H locs ls hr hl hv
  match S, hst with
  | .int x :: S, hst => exact lv_if_eq hx hb hd ht (fun q => hJ _ _ _ _ _ (hst.1 q) H locs ls hr hl hv) (fun q => hK _ _ _ _ _ (hst.2 q) H locs ls hr hl hv)
theorem zs_if_ne (hx : p.tables.exec = Jvm.exec) (hb : c.code = cc) {off : Int} (hJ : zimp J (zsim p l e R s m args below meth c G n Qf (ztg pc off))) (ht : (pc : Int) + off = (ztg pc off : Int)) (hd : decode cc pc = .ok (.ifCond .ne off, 3)) (hK : zimp K (zsim p l e R s m args below meth c G n Qf (pc + 3))) (hst : zi1 S fun x S => (¬ x = 0 → J L S h kc ks) ∧ (x = 0 → K L S h kc ks)) : zsim p l e R s m args below meth c G n Qf pc L S h kc ks := by
  intro H locs ls hr hl hv
  match S, hst with
  | .int x :: S, hst => exact lv_if_ne hx hb hd ht (fun q => hJ _ _ _ _ _ (hst.1 q) H locs ls hr hl hv) (fun q => hK _ _ _ _ _ (hst.2 q) H locs ls hr hl hv)
theorem zs_if_lt (hx : p.tables.exec = Jvm.exec) (hb : c.code = cc) {off : Int} (hJ : zimp J (zsim p l e R s m args below meth c G n Qf (ztg pc off))) (ht : (pc : Int) + off = (ztg pc off : Int)) (hd : decode cc pc = .ok (.ifCond .lt off, 3)) (hK : zimp K (zsim p l e R s m args below meth c G n Qf (pc + 3))) (hst : zi1 S fun x S => (x < 0 → J L S h kc ks) ∧ (¬ x < 0 → K L S h kc ks)) : zsim p l e R s m args below meth c G n Qf pc L S h kc ks := by
  intro H locs ls hr hl hv
  match S, hst with
  | .int x :: S, hst => exact lv_if_lt hx hb hd ht (fun q => hJ _ _ _ _ _ (hst.1 q) H locs ls hr hl hv) (fun q => hK _ _ _ _ _ (hst.2 q) H locs ls hr hl hv)
theorem zs_if_ge (hx : p.tables.exec = Jvm.exec) (hb : c.code = cc) {off : Int} (hJ : zimp J (zsim p l e R s m args below meth c G n Qf (ztg pc off))) (ht : (pc : Int) + off = (ztg pc off : Int)) (hd : decode cc pc = .ok (.ifCond .ge off, 3)) (hK : zimp K (zsim p l e R s m args below meth c G n Qf (pc + 3))) (hst : zi1 S fun x S => (0 ≤ x → J L S h kc ks) ∧ (¬ 0 ≤ x → K L S h kc ks)) : zsim p l e R s m args below meth c G n Qf pc L S h kc ks := by
  intro H locs ls hr hl hv
  match S, hst with
  | .int x :: S, hst => exact lv_if_ge hx hb hd ht (fun q => hJ _ _ _ _ _ (hst.1 q) H locs ls hr hl hv) (fun q => hK _ _ _ _ _ (hst.2 q) H locs ls hr hl hv)
theorem zs_if_gt (hx : p.tables.exec = Jvm.exec) (hb : c.code = cc) {off : Int} (hJ : zimp J (zsim p l e R s m args below meth c G n Qf (ztg pc off))) (ht : (pc : Int) + off = (ztg pc off : Int)) (hd : decode cc pc = .ok (.ifCond .gt off, 3)) (hK : zimp K (zsim p l e R s m args below meth c G n Qf (pc + 3))) (hst : zi1 S fun x S => (0 < x → J L S h kc ks) ∧ (¬ 0 < x → K L S h kc ks)) : zsim p l e R s m args below meth c G n Qf pc L S h kc ks := by
  intro H locs ls hr hl hv
  match S, hst with
  | .int x :: S, hst => exact lv_if_gt hx hb hd ht (fun q => hJ _ _ _ _ _ (hst.1 q) H locs ls hr hl hv) (fun q => hK _ _ _ _ _ (hst.2 q) H locs ls hr hl hv)
theorem zs_if_le (hx : p.tables.exec = Jvm.exec) (hb : c.code = cc) {off : Int} (hJ : zimp J (zsim p l e R s m args below meth c G n Qf (ztg pc off))) (ht : (pc : Int) + off = (ztg pc off : Int)) (hd : decode cc pc = .ok (.ifCond .le off, 3)) (hK : zimp K (zsim p l e R s m args below meth c G n Qf (pc + 3))) (hst : zi1 S fun x S => (x ≤ 0 → J L S h kc ks) ∧ (¬ x ≤ 0 → K L S h kc ks)) : zsim p l e R s m args below meth c G n Qf pc L S h kc ks := by
  intro H locs ls hr hl hv
  match S, hst with
  | .int x :: S, hst => exact lv_if_le hx hb hd ht (fun q => hJ _ _ _ _ _ (hst.1 q) H locs ls hr hl hv) (fun q => hK _ _ _ _ _ (hst.2 q) H locs ls hr hl hv)
theorem zs_icmp_eq (hx : p.tables.exec = Jvm.exec) (hb : c.code = cc) {off : Int} (hJ : zimp J (zsim p l e R s m args below meth c G n Qf (ztg pc off))) (ht : (pc : Int) + off = (ztg pc off : Int)) (hd : decode cc pc = .ok (.if_icmp .eq off, 3)) (hK : zimp K (zsim p l e R s m args below meth c G n Qf (pc + 3))) (hst : zi2 S fun x y S => (x = y → J L S h kc ks) ∧ (¬ x = y → K L S h kc ks)) : zsim p l e R s m args below meth c G n Qf pc L S h kc ks := by
  intro H locs ls hr hl hv
  match S, hst with
  | .int y :: .int x :: S, hst => exact lv_icmp_eq hx hb hd ht (fun q => hJ _ _ _ _ _ (hst.1 q) H locs ls hr hl hv) (fun q => hK _ _ _ _ _ (hst.2 q) H locs ls hr hl hv)
theorem zs_icmp_ne (hx : p.tables.exec = Jvm.exec) (hb : c.code = cc) {off : Int} (hJ : zimp J (zsim p l e R s m args below meth c G n Qf (ztg pc off))) (ht : (pc : Int) + off = (ztg pc off : Int)) (hd : decode cc pc = .ok (.if_icmp .ne off, 3)) (hK : zimp K (zsim p l e R s m args below meth c G n Qf (pc + 3))) (hst : zi2 S fun x y S => (¬ x = y → J L S h kc ks) ∧ (x = y → K L S h kc ks)) : zsim p l e R s m args below meth c G n Qf pc L S h kc ks := by
  intro H locs ls hr hl hv
  match S, hst with
  | .int y :: .int x :: S, hst => exact lv_icmp_ne hx hb hd ht (fun q => hJ _ _ _ _ _ (hst.1 q) H locs ls hr hl hv) (fun q => hK _ _ _ _ _ (hst.2 q) H locs ls hr hl hv)
theorem zs_icmp_lt (hx : p.tables.exec = Jvm.exec) (hb : c.code = cc) {off : Int} (hJ : zimp J (zsim p l e R s m args below meth c G n Qf (ztg pc off))) (ht : (pc : Int) + off = (ztg pc off : Int)) (hd : decode cc pc = .ok (.if_icmp .lt off, 3)) (hK : zimp K (zsim p l e R s m args below meth c G n Qf (pc + 3))) (hst : zi2 S fun x y S => (x < y → J L S h kc ks) ∧ (¬ x < y → K L S h kc ks)) : zsim p l e R s m args below meth c G n Qf pc L S h kc ks := by
  intro H locs ls hr hl hv
  match S, hst with
  | .int y :: .int x :: S, hst => exact lv_icmp_lt hx hb hd ht (fun q => hJ _ _ _ _ _ (hst.1 q) H locs ls hr hl hv) (fun q => hK _ _ _ _ _ (hst.2 q) H locs ls hr hl hv)
theorem zs_icmp_ge (hx : p.tables.exec = Jvm.exec) (hb : c.code = cc) {off : Int} (hJ : zimp J (zsim p l e R s m args below meth c G n Qf (ztg pc off))) (ht : (pc : Int) + off = (ztg pc off : Int)) (hd : decode cc pc = .ok (.if_icmp .ge off, 3)) (hK : zimp K (zsim p l e R s m args below meth c G n Qf (pc + 3))) (hst : zi2 S fun x y S => (y ≤ x → J L S h kc ks) ∧ (¬ y ≤ x → K L S h kc ks)) : zsim p l e R s m args below meth c G n Qf pc L S h kc ks := by
  intro H locs ls hr hl hv
  match S, hst with
  | .int y :: .int x :: S, hst => exact lv_icmp_ge hx hb hd ht (fun q => hJ _ _ _ _ _ (hst.1 q) H locs ls hr hl hv) (fun q => hK _ _ _ _ _ (hst.2 q) H locs ls hr hl hv)
theorem zs_icmp_gt (hx : p.tables.exec = Jvm.exec) (hb : c.code = cc) {off : Int} (hJ : zimp J (zsim p l e R s m args below meth c G n Qf (ztg pc off))) (ht : (pc : Int) + off = (ztg pc off : Int)) (hd : decode cc pc = .ok (.if_icmp .gt off, 3)) (hK : zimp K (zsim p l e R s m args below meth c G n Qf (pc + 3))) (hst : zi2 S fun x y S => (y < x → J L S h kc ks) ∧ (¬ y < x → K L S h kc ks)) : zsim p l e R s m args below meth c G n Qf pc L S h kc ks := by
  intro H locs ls hr hl hv
  match S, hst with
  | .int y :: .int x :: S, hst => exact lv_icmp_gt hx hb hd ht (fun q => hJ _ _ _ _ _ (hst.1 q) H locs ls hr hl hv) (fun q => hK _ _ _ _ _ (hst.2 q) H locs ls hr hl hv)
theorem zs_icmp_le (hx : p.tables.exec = Jvm.exec) (hb : c.code = cc) {off : Int} (hJ : zimp J (zsim p l e R s m args below meth c G n Qf (ztg pc off))) (ht : (pc : Int) + off = (ztg pc off : Int)) (hd : decode cc pc = .ok (.if_icmp .le off, 3)) (hK : zimp K (zsim p l e R s m args below meth c G n Qf (pc + 3))) (hst : zi2 S fun x y S => (x ≤ y → J L S h kc ks) ∧ (¬ x ≤ y → K L S h kc ks)) : zsim p l e R s m args below meth c G n Qf pc L S h kc ks := by
  intro H locs ls hr hl hv
  match S, hst with
  | .int y :: .int x :: S, hst => exact lv_icmp_le hx hb hd ht (fun q => hJ _ _ _ _ _ (hst.1 q) H locs ls hr hl hv) (fun q => hK _ _ _ _ _ (hst.2 q) H locs ls hr hl hv)
theorem zs_table (hx : p.tables.exec = Jvm.exec) (hb : c.code = cc) {dflt lo hi : Int} {offs : Array Int} {len : Nat} {JJ : Nat → zK} (hd : decode cc pc = .ok (.tableswitch dflt lo hi offs, len)) (hJ : ∀ t, zimp (JJ t) (zsim p l e R s m args below meth c G n Qf t)) (h0 : (pc : Int) + dflt = (ztg pc dflt : Int)) (h1 : ∀ (j : Nat) (off : Int), offs.toList[j]? = some off → (pc : Int) + off = (ztg pc off : Int)) (h2 : lo + offs.size = hi + 1)
    (hst : zi1 S fun x S => (x.toInt < lo ∨ hi < x.toInt → JJ (ztg pc dflt) L S h kc ks) ∧ ∀ (j : Nat) (off : Int), offs.toList[j]? = some off → x.toInt = lo + j → JJ (ztg pc off) L S h kc ks) : zsim p l e R s m args below meth c G n Qf pc L S h kc ks := by
  intro H locs ls hr hl hv
  match S, hst with
  | .int x :: S, hst =>
    by_cases hq : x.toInt < lo ∨ hi < x.toInt
    · exact lv_tableOut hx hb hd hq h0 (hJ _ _ _ _ _ _ (hst.1 hq) H locs ls hr hl hv)
    · have q1 : ¬ x.toInt < lo := fun z => hq (Or.inl z)
      have q2 : ¬ hi < x.toInt := fun z => hq (Or.inr z)
      have q3 : (x.toInt - lo).toNat < offs.size := by omega
      obtain ⟨off, ho⟩ : ∃ off, offs[(x.toInt - lo).toNat]? = some off := ⟨offs[(x.toInt - lo).toNat], by simp [q3]⟩
      have ho2 : offs.toList[(x.toInt - lo).toNat]? = some off := by rw [Array.getElem?_toList]; exact ho
      exact lv_tableIn hx hb hd q1 q2 ho (h1 _ _ ho2) (hJ _ _ _ _ _ _ (hst.2 _ _ ho2 (by omega)) H locs ls hr hl hv)
end ZS
