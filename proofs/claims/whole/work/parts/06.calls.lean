/-! WHAT EVERY METHOD KNOWS OF THE TABLES; RETURNS, CALLS, THROWS -/
def zXgood (w : Cond) : Bool := match w with
  | .declares _ => true
  | .castable .. => true
  | .methodLinkNest .. => true
  | _ => false
def zXW : List Cond := tables_1.filter zXgood
def zNC : List (String × String) := [("java/util/NoSuchElementException", "java/lang/IllegalArgumentException"), ("java/lang/IndexOutOfBoundsException", "java/lang/IllegalArgumentException"), ("java/lang/IllegalArgumentException", "java/util/NoSuchElementException"), ("java/lang/IndexOutOfBoundsException", "java/util/NoSuchElementException"), ("java/lang/IllegalArgumentException", "java/lang/IndexOutOfBoundsException"), ("java/util/NoSuchElementException", "java/lang/IndexOutOfBoundsException")]
def zWord : List String := ["corner", "street", "one", "no", "may", "box", "rider"]
/-- the words' own contents, and that strings are kept in bytes -/
def zLenW : List Nat := [6, 6, 3, 2, 3, 3, 5]
def zBytW : List (List Int32) := [[99, 111, 114, 110, 101, 114], [115, 116, 114, 101, 101, 116], [111, 110, 101], [110, 111], [109, 97, 121], [98, 111, 120], [114, 105, 100, 101, 114]]
def zStrW (G : zG) (U : State) : Prop := vk_S 7 zLenW zBytW (fun i => zet G (1 + i)) (fun i => zet G (8 + i)) (fun q => zb0 G ≤ q) U (zH0 G) ∧ va_Z "java/lang/String" "COMPACT_STRINGS" "Z" (.int 1) (fun q => zb0 G ≤ q) U (zH0 G) ∧ va_Zq "jdk/internal/util/Preconditions" "SIOOBE_FORMATTER" "Ljava/util/function/BiFunction;" (fun q => zb0 G ≤ q) U (zH0 G)
theorem zStrW.moved {G : zG} {u U : State} (hvm : u.vm.Alike U.vm) (h : zStrW G u) : zStrW G U := by
  obtain ⟨h1, h2, h3⟩ := h
  exact ⟨h1.moved hvm, h2.moved hvm, h3.moved hvm⟩
def zTy (G : zG) (U : State) : Prop := (∀ w ∈ zXW, va_Nw w U) ∧ (∀ (own : String) (idx : Nat) (text : String), Cond.stringRef own idx text ∈ tables_1 → ∃ sa, vk_R own idx text sa U) ∧ (∀ q ∈ zNC, va_Nc q.1 q.2 U) ∧ (Cond.arrayOver (.array .int)).before #[] U = true ∧ (∀ j, j < 7 → vk_R RX5 (151 + 2 * j) (zWord.getD j "") (zet G (1 + j)) U) ∧ zStrW G U
def zT (G : zG) (U : State) : Prop := zKn G U ∧ zb0 G = (zH0 G).size ∧ vx_Zq Bundle.tN "UNASSIGNED_STACK" Bundle.steD (fun q => zb0 G ≤ q) U (zH0 G) ∧ vx_Zq Bundle.tN "SUPPRESSED_SENTINEL" Bundle.listD (fun q => zb0 G ≤ q) U (zH0 G) ∧ zTy G U
theorem zXgood_warm {w : Cond} (hg : zXgood w = true) {s U : State} (hW : s.WarmedH U.vm) (h : va_Nw w s) : va_Nw w U := by
  unfold zXgood at hg
  split at hg
  · exact va_Nw.warmD hW h
  · rename_i a b
    refine va_tabs rfl (rfl : (s.setVm U.vm).vm = U.vm) (A := #[]) ?_
    rw [Cond.castable_setVm hW.alike]
    exact h
  · exact va_Nw.warmM hW h
  · cases hg
theorem zAO_moved {u U : State} (hvm : u.vm.Alike U.vm) (h : (Cond.arrayOver (.array .int)).before #[] u = true) : (Cond.arrayOver (.array .int)).before #[] U = true := by
  have h1 : (Cond.arrayOver (.array .int)).before #[] (u.setVm U.vm) = true := by rw [Cond.arrayOver_setVmC hvm]; exact h
  exact h1
theorem zT.warm {G : zG} {s U : State} (hW : s.WarmedH U.vm) (h : zT G s) : zT G U := by
  obtain ⟨h1, h2, h3, h4, h5, h6, h7, h8, h9, h10⟩ := h
  refine ⟨va_K.moved hW.alike h1, h2, h3.moved hW.alike, h4.moved hW.alike, fun w hw => zXgood_warm (List.mem_filter.mp hw).2 hW (h5 w hw), fun own idx text hm => ?_, fun q hq => (h7 q hq).moved hW.alike, zAO_moved hW.alike h8, fun j hj => (h9 j hj).warm hW, h10.moved hW.alike⟩
  obtain ⟨sa, h⟩ := h6 own idx text hm
  exact ⟨sa, h.warm hW⟩
def zfree (G : zG) : Addr → Prop := fun q => zb0 G ≤ q
def zPc (G : zG) (av : List Value) (h : zH) : Array Value → State → Prop := fun v U => v = (av.map (zv G)).toArray ∧ zrel G U h U.heap ∧ zT G U
def zQc (G : zG) (Q : zQ) : Array Value → State → Outcome → State → Prop := fun _ _ o t => ∃ (v : Option Value) (h : zH), o = .returned (v.map (zv G)) ∧ Q (.inl v) h ∧ zrel G t h t.heap
def zXC (G : zG) (Q : zQ) : String → State → State → Prop := fun E _ t => ∃ h : zH, Q (.inr E) h ∧ zrel G t h t.heap
def zcd (M : zM) : Cond := match zhh M with
  | none => .code (zy M) (zcc M) (zml M) (zrt M)
  | some hh => .codeWith (zy M) (zcc M) (zml M) (zrt M) hh
def zws (M : zM) : List Cond := zcd M :: zGW
def zroom (M : zM) : Room := { frames := zfr M, cells := zmc M, slots := zms M, locals := zlo M }
def zMet (l : Launch) (G : zG) (M : zM) (av : List Value) (h : zH) (Q : zQ) : Prop := vx_Met l (zy M) (zws M) (zroom M) (zPc G av h) (zQc G Q) (zXC G Q) (zmc M) (zms M) (zfree G)
theorem zPc_blind (G : zG) (av : List Value) (h : zH) : FrameBlind (zPc G av h) := fun _ U g mk ⟨h1, h2, h3⟩ => ⟨h1, h2, h3.warm (s := U) (U := U.calling g mk _) (State.WarmedH.refl U)⟩
theorem zMet.sure {l : Launch} {G : zG} {M : zM} {av : List Value} {h : zH} {Q : zQ} (hM : zMet l G M av h Q) (hn : ∀ E h, ¬ Q (.inr E) h) : Met l (zy M) (zws M) (zroom M) (zPc G av h) (zQc G Q) (zmc M) (zms M) (zfree G) := by
  refine MetFree.mono hM (fun _ _ h => h) (fun _ _ _ _ _ h => h) ?_
  intro a st o t _ hq
  rcases hq with hq | ⟨q, -, E, ce, L, ⟨h2, hx, -⟩, -⟩
  · exact hq
  · exact (hn E h2 hx).elim
section ZC
variable {p : Program} {l : Launch} {e : Env} {R : Room} {s : State} {m : MethodId} {args : Array Value} {below : List Frame} {meth : Method} {c : Code} {Qf : State → Prop} {G : zG} {cc : ByteArray} {n pc : Nat} {K J : zK} {L : zL} {S : List Value} {h : zH} {kc ks mc ms : Nat} {own : String} {Q : zQ}
abbrev zend (below : List Frame) (G : zG) (Q : zQ) (args : Array Value) (s : State) (mc ms : Nat) : State → Prop := vx_MQ below (zQc G Q) (zXC G Q) args s mc ms (zfree G)
theorem zs_ireturn (hx : p.tables.exec = Jvm.exec) (hb : c.code = cc) (hlocks : meth.locks = false) {a : Nat} (hr0 : meth.sig.returnType = some (if a = 1 then .boolean else .int)) (hd : decode cc pc = .ok (.ireturn, 1))
    (hst : match S with
      | [.int v] => kc ≤ mc ∧ ks ≤ ms ∧ (a = 1 → v = 0 ∨ v = 1) ∧ Q (.inl (some (.int v))) h
      | _ => False) : zsim p l e R s m args below meth c G n (zend below G Q args s mc ms) pc L S h kc ks := by
  intro H locs ls hr hl hv
  match S, hst with
  | [.int v], ⟨h1, h2, h3, hq⟩ =>
    refine vx_ret (W.widen h1 h2 ?_)
    have hfin : ∀ t : State, t.heap = H → s.WarmedH t.vm → zQc G Q args s (.returned (some (.int v))) t := fun t ht hW => ⟨some (.int v), h, rfl, hq, by rw [ht]; exact hr.moved hW.alike⟩
    by_cases ha : a = 1
    · rw [if_pos ha] at hr0
      refine W.zret (ty := .boolean) hx hb hr0 ?_ hfin hl hd hlocks
      rcases h3 ha with rfl | rfl <;> rfl
    · rw [if_neg ha] at hr0
      exact W.iret hx hb hr0 hfin hl hd hlocks
theorem zs_lreturn (hx : p.tables.exec = Jvm.exec) (hb : c.code = cc) (hlocks : meth.locks = false) (hr0 : meth.sig.returnType = some .long) (hd : decode cc pc = .ok (.lreturn, 1))
    (hst : match S with
      | [.long v] => kc ≤ mc ∧ ks ≤ ms ∧ Q (.inl (some (.long v))) h
      | _ => False) : zsim p l e R s m args below meth c G n (zend below G Q args s mc ms) pc L S h kc ks := by
  intro H locs ls hr hl hv
  match S, hst with
  | [.long v], ⟨h1, h2, hq⟩ =>
    refine vx_ret (W.widen h1 h2 ?_)
    exact W.lret hx hb hr0 (fun t ht hW => ⟨some (.long v), h, rfl, hq, by rw [ht]; exact hr.moved hW.alike⟩) hl hd hlocks
theorem zs_areturn (hx : p.tables.exec = Jvm.exec) (hb : c.code = cc) (hlocks : meth.locks = false) {C : String} (hr0 : meth.sig.returnType = some (.object C)) (hd : decode cc pc = .ok (.areturn, 1))
    (hst : match S with
      | [.ref v] => kc ≤ mc ∧ ks ≤ ms ∧ Q (.inl (some (.ref v))) h
      | _ => False) : zsim p l e R s m args below meth c G n (zend below G Q args s mc ms) pc L S h kc ks := by
  intro H locs ls hr hl hv
  match S, hst with
  | [.ref v], ⟨h1, h2, hq⟩ =>
    refine vx_ret (W.widen h1 h2 ?_)
    exact W.aret hx hb hr0 (Or.inl ⟨C, rfl⟩) (Or.inr ⟨_, rfl⟩) (fun t ht hW => ⟨some (.ref v), h, rfl, hq, by rw [ht]; exact hr.moved hW.alike⟩) hl hd hlocks
theorem zs_return (hx : p.tables.exec = Jvm.exec) (hb : c.code = cc) (hlocks : meth.locks = false) (hr0 : meth.sig.returnType = none) (hd : decode cc pc = .ok (.return_, 1))
    (hst : match S with
      | [] => kc ≤ mc ∧ ks ≤ ms ∧ Q (.inl none) h
      | _ => False) : zsim p l e R s m args below meth c G n (zend below G Q args s mc ms) pc L S h kc ks := by
  intro H locs ls hr hl hv
  match S, hst with
  | [], ⟨h1, h2, hq⟩ =>
    refine vx_ret (W.widen h1 h2 ?_)
    exact W.vret hx hb hr0 (fun t ht hW => ⟨none, h, rfl, hq, by rw [ht]; exact hr.moved hW.alike⟩) hl hd hlocks
theorem zs_ldcI (hx : p.tables.exec = Jvm.exec) (hb : c.code = cc) (hts : ∀ w ∈ zGW, w.before args s = true) (hown : s.vm.findClass own = some m.cls) {i : Nat} {v : Int32} (w1 : Cond.constant own i v ∈ zGW) (hd : decode cc pc = .ok (.ldc i, 2)) (hK : zimp K (zsim p l e R s m args below meth c G n Qf (pc + 2)))
    (hst : K L (.int v :: S) h kc ks) : zsim p l e R s m args below meth c G n Qf pc L S h kc ks := fun H locs ls hr hl hv => lv_ldc hx hb hown (hts _ w1) hd (hK _ _ _ _ _ hst H locs ls hr hl hv)
theorem zs_ldcW (hx : p.tables.exec = Jvm.exec) (hb : c.code = cc) (hts : ∀ w ∈ zGW, w.before args s = true) (hown : s.vm.findClass own = some m.cls) {i : Nat} {v : Int32} (w1 : Cond.constant own i v ∈ zGW) (hd : decode cc pc = .ok (.ldc_w i, 3)) (hK : zimp K (zsim p l e R s m args below meth c G n Qf (pc + 3)))
    (hst : K L (.int v :: S) h kc ks) : zsim p l e R s m args below meth c G n Qf pc L S h kc ks := fun H locs ls hr hl hv => lv_ldcw hx hb hown (hts _ w1) hd (hK _ _ _ _ _ hst H locs ls hr hl hv)
theorem zs_ldc2 (hx : p.tables.exec = Jvm.exec) (hb : c.code = cc) (hts : ∀ w ∈ zGW, w.before args s = true) (hown : s.vm.findClass own = some m.cls) {i : Nat} {v : Int64} (w1 : Cond.constantLong own i v ∈ zGW) (hd : decode cc pc = .ok (.ldc2_w i, 3)) (hK : zimp K (zsim p l e R s m args below meth c G n Qf (pc + 3)))
    (hst : K L (.long v :: S) h kc ks) : zsim p l e R s m args below meth c G n Qf pc L S h kc ks := fun H locs ls hr hl hv => lv_ldc2 hx hb hown (hts _ w1) hd (hK _ _ _ _ _ hst H locs ls hr hl hv)
theorem zs_ldcS (hx : p.tables.exec = Jvm.exec) (hb : c.code = cc) (hT : zT G s) (hown : s.vm.findClass RX5 = some m.cls) {j : Nat} (hj : j < 7) (hd : decode cc pc = .ok (.ldc (151 + 2 * j), 2)) (hK : zimp K (zsim p l e R s m args below meth c G n Qf (pc + 2)))
    (hst : K L (.ref (1 + j) :: S) h kc ks) : zsim p l e R s m args below meth c G n Qf pc L S h kc ks := fun H locs ls hr hl hv => by
  have kk := hK _ _ _ _ _ hst H locs ls hr hl hv
  have e9 : zv G (.ref (1 + j)) = .ref (zet G (1 + j)) := by
    show Value.ref (zad G (1 + j)) = _
    unfold zad
    rw [if_pos (by omega)]
  rw [List.map_cons, e9] at kk
  exact va_ldcS hx hb hown (hT.2.2.2.2.2.2.2.2.1 j hj) hd kk
theorem zs_objinit (hx : p.tables.exec = Jvm.exec) (hb : c.code = cc) (hml : c.maxLocals = n) (hts : ∀ w ∈ zGW, w.before args s = true) (hown : s.vm.findClass own = some m.cls) {i : Nat} (w1 : Cond.methodLink own i objectInit ∈ zGW) (w2 : Cond.instanceMethod objectInit ∈ zGW) (w3 : Cond.code objectInit ⟨#[0xb1]⟩ 1 none ∈ zGW) (hRf : 1 ≤ R.frames) (hRl : 20 ≤ R.locals) (hd : decode cc pc = .ok (.invokespecial i, 3)) (hK : zimp K (zsim p l e R s m args below meth c G n Qf (pc + 3)))
    (hst : zr1 S fun _ S => zwt S ≤ 8 ∧ K L S h kc ks) : zsim p l e R s m args below meth c G n Qf pc L S h kc ks := by
  intro H locs ls hr hl hv
  match S, hst with
  | .ref q :: S, ⟨hw, hf⟩ =>
    have hcat : ((S.map (zv G)).map fun v => v.category).sum = zwt S := by
      unfold zwt
      rw [List.map_map]
      congr 1
      exact List.map_congr_left (fun v _ => zv_cat G v)
    refine W.objInit hx hb hown (hts _ w1) (hts _ w2) (hts _ w3) rfl (by rw [hml]; exact hv.1) rfl hd hRf (by show 2 * 0 + _ + 12 ≤ _; rw [hcat]; omega) ?_
    exact hK _ _ _ _ _ hf H locs ls hr hl hv
/-- behind a call that comes back -/
theorem zgoA {H : Heap} {locs : List Loc} {ls : Array Slot} {st0 rest : List Value} {a : Array Value} {Q' : zQ} {mc' ms' : Nat} (hr : va_Run p l e R s m args below meth c H locs kc ks mc' ms' (F0 m pc ls st0) rest (zQc G Q' a) (zfree G)) (hl : ∀ x ∈ locs, zb0 G ≤ x.base)
    (kk : ∀ (v : Option Value) (h2 : zH) (H2 : Heap) (locs2 : List Loc), Q' (.inl v) h2 → zrel G s h2 H2 → (∀ x ∈ locs2, zb0 G ≤ x.base) → W p l e R s m args below meth c H2 locs2 (kc + mc') (ks + ms') Qf (F0 m (pc + 3) ls ((v.map (zv G)).toList ++ rest))) : W p l e R s m args below meth c H locs kc ks Qf (F0 m pc ls st0) := by
  intro T hT X
  obtain ⟨v, st₀, t, T', L, h0, X', hL, e1, e2, ⟨v0, h2, hv0, hq, hrel⟩, st⟩ := hr T hT X
  cases hv0
  have hvm : s.vm.Alike t.vm := by rw [← e2]; exact X'.warmed.alike
  obtain ⟨t2, a1, b1⟩ := kk v0 h2 T'.heap (locs ++ L) hq (by rw [e1]; exact hrel.moved hvm.symm) (fun x hx => (List.mem_append.mp hx).elim (hl x) (hL x)) T' rfl X'
  exact ⟨t2, st t2 a1, b1⟩
/-- behind a call that comes back or throws -/
theorem zgoX {H : Heap} {locs : List Loc} {ls : Array Slot} {st0 rest : List Value} {a : Array Value} {Q' : zQ} {mc' ms' : Nat} (hr : vx_Run p l e R s m args below meth c H locs kc ks mc' ms' (F0 m pc ls st0) rest (zQc G Q' a) (zXC G Q') (zfree G)) (hl : ∀ x ∈ locs, zb0 G ≤ x.base)
    (kx : ∀ (E : String) (ce : Cell) (q : Addr) (h2 : zH) (H2 : Heap) (locs2 : List Loc), Q' (.inr E) h2 → zrel G s h2 H2 → (∀ x ∈ locs2, zb0 G ≤ x.base) → H2[q]? = some ce → ce.vm = .none → s.vm.findClass E = some ce.cls → vx_W p l e R s m args below meth c H2 locs2 (kc + mc') (ks + ms') Qf (F0 m pc ls rest) q)
    (kk : ∀ (v : Option Value) (h2 : zH) (H2 : Heap) (locs2 : List Loc), Q' (.inl v) h2 → zrel G s h2 H2 → (∀ x ∈ locs2, zb0 G ≤ x.base) → W p l e R s m args below meth c H2 locs2 (kc + mc') (ks + ms') Qf (F0 m (pc + 3) ls ((v.map (zv G)).toList ++ rest))) : W p l e R s m args below meth c H locs kc ks Qf (F0 m pc ls st0) := by
  intro T hT X
  rcases hr T hT X with ⟨v, st₀, t, T', L, h0, X', hL, e1, e2, ⟨v0, h2, hv0, hq, hrel⟩, st⟩ | ⟨q, st₀, t, T', L, E, ce, h0, X', hL, e1, e2, ⟨h2, hq, hrel⟩, hce, hcv, hcl, st⟩
  · cases hv0
    have hvm : s.vm.Alike t.vm := by rw [← e2]; exact X'.warmed.alike
    obtain ⟨t2, a1, b1⟩ := kk v0 h2 T'.heap (locs ++ L) hq (by rw [e1]; exact hrel.moved hvm.symm) (fun x hx => (List.mem_append.mp hx).elim (hl x) (hL x)) T' rfl X'
    exact ⟨t2, st t2 a1, b1⟩
  · have hvm : s.vm.Alike t.vm := by rw [← e2]; exact X'.warmed.alike
    obtain ⟨t2, a1, b1⟩ := kx E ce q h2 T'.heap (locs ++ L) hq (by rw [e1]; exact hrel.moved hvm.symm) (fun x hx => (List.mem_append.mp hx).elim (hl x) (hL x)) (by rw [e1]; exact hce) hcv hcl T' rfl X'
    exact ⟨t2, st.trans a1, b1⟩
end ZC
