/-! THE CLAIM OUT OF ONE WALK (after the kit's skeleton) -/
def R_law : String := "RightTurnsLaw"
def lw_P (b : Addr) (xs : List Int32) (args : Array Value) (s : State) : Prop := args = #[.ref b] ∧ s.IntsAt b xs ∧ xs.length ≤ 384 ∧ (Jvm.Cond.and given_1 narrow_1).before args s = true
def lw_Q (_ : Array Value) (s : State) (o : Outcome) (t : State) : Prop := o = .returned (some (.int 1)) ∧ Framed s o t [] 600128 7301098
def lw_Z (below : List Frame) (a : Array Value) (s : State) : State → Prop := fun t => ∃ o, t.status = .running ∧ Ended t below o ∧ lw_Q a s o t
/-- the law's own end, with 1 on the stack, nothing written that was there before, its room as the claim has it -/
theorem lw_ret {p : Program} {l : Launch} {e : Env} {s : State} {m : MethodId} {below : List Frame} {meth : Method} {c : Code} {b : Nat} (hx : p.tables.exec = Jvm.exec) (hb : c.code = code) (hr : meth.sig.returnType = ret) (hlocks : meth.locks = false) {pc : Nat} {H : Heap} {ls : Array Slot} (hdg : decode code pc = .ok (.ireturn, 1)) : W p l e room_1 s m #[Value.ref b] below meth c H [] 600128 7301098 (lw_Z below #[Value.ref b] s) (F0 m pc ls [.int 1]) := by
  intro T hT X
  obtain ⟨fs, hret, hrun, hended, hW, hframe⟩ := X.leave (v := some (.int 1)) (hlocks := hlocks) (fun h => by rw [hr] at h; cases h)
  have hmeth' : T.vm.method? m = some meth := X.method'
  refine ⟨T.setFrames fs, ?_, .returned (some (.int 1)), hrun, hended, rfl, ⟨_, rfl⟩, hW, hframe⟩
  jvm_step X.here [X.here.top, hx, hb, hdg, hmeth', hr, ret, narrow_b1]
  (try refine ⟨rfl, ?_⟩); (try refine ⟨rfl, ?_⟩)
  first | (intro acts; rw [hret _ acts rfl rfl rfl]) | rw [hret _ _ rfl rfl rfl]
  exact Steps.refl _
/-- what holds at the law's entry: the machine, the code, the tables' words (any of lw_tbl by 'hts w (by decide +kernel)'), the script of L ints xs at the cell b, what the Statement gives of the start (any of its parts by flat_of_before) -/
def lw_At (p : Program) (s : State) (m : MethodId) (meth : Method) (c : Code) (b L : Nat) (xs : Nat → Int32) : Prop :=
  p.tables.exec = Jvm.exec ∧ c.code = code ∧ meth.sig.returnType = ret ∧ c.maxLocals = 8 ∧ s.vm.findClass R_law = some m.cls ∧ (∀ w ∈ lw_tbl, w.before #[Value.ref b] s = true) ∧ va_X b L xs s s.heap ∧ b < s.heap.size ∧ meth.locks = false ∧ (Jvm.Cond.and given_1 narrow_1).before #[Value.ref b] s = true
theorem whole_w {p : Program} {e : Env} {s : State} {m : MethodId} {below : List Frame} {meth : Method} {c : Code} (l : Launch) (hlt : l.stackTraces = false) {b L : Nat} {xs : Nat → Int32} {h0 : zH} (hCL : zCLok) (hWk : zWok) (hP : zPok zP 315) (C0 : lw_At p s m meth c b L xs) (hnm : meth.name = "law") (htab : c.exceptionTable.toList = []) (e1 : h0.2 = 16) (e2 : h0.1 0 = .inl (0, L, .inl xs)) (e3 : ∀ i, 0 < i → h0.1 i = .inr (0, [])) (hW : zW zP 314 [.ref 0] h0 (fun x _ => x = .inl (some (.int 1)))) : W p l e room_1 s m #[Value.ref b] below meth c s.heap [] 0 0 (lw_Z below #[Value.ref b] s) (entryFrame m ([Value.ref b] : List Value).toArray 8) := by
  obtain ⟨hx, hb, hr, hml, hown, hts, hX, hbl, hlocks, hgv⟩ := id C0
  obtain ⟨G, g1, g2, g3, hrel, hT⟩ := zstart hCL hts hX hbl hgv e1 e2 e3
  have hsnd := zW_sound hCL hWk hP hlt G (zSt5_ok l G) (zSt6_ok l G)
  rw [zW] at hW
  obtain ⟨hwt, hW0⟩ := hW
  have hC : ∀ a av' h' Q', (∃ _ : a < 314, zW zP a av' h' Q') → zMet l G (zP a) av' h' Q' := fun a av' h' Q' ⟨ha, hz⟩ => hsnd a (Nat.lt_trans ha (by omega)) av' h' Q' hz
  obtain ⟨hH, hB, -, -⟩ := hP 314 (by omega)
  have hlv := lv_entry ([Value.ref 0].map (zv G)) (n := 8) (Nat.le_of_ble_eq_true rfl)
  have eav : ([Value.ref b] : List Value) = [Value.ref 0].map (zv G) := by
    show [Value.ref b] = [Value.ref (zad G 0)]
    rw [g3]
  have key : W p l e (zroom (zP 314)) s m #[Value.ref b] below meth c s.heap [] 0 0 (zend below G (fun x _ => x = .inl (some (.int 1))) #[Value.ref b] s (zmc (zP 314)) (zms (zP 314))) (entryFrame m ([Value.ref 0].map (zv G)).toArray 8) := by
    rw [lg_entry_eq]
    generalize (lg_sl ([Value.ref 0].map (zv G)) ++ List.replicate (8 - (lg_sl ([Value.ref 0].map (zv G))).length) Slot.unset).toArray = ls at hlv ⊢
    rw [zv_args] at hlv
    exact zfp_sound (P := zP) (k := 314) (zSt5_ok l G) (zSt6_ok l G) hCL hWk hx hb hml hr hlocks hlt hown (fun w hw => hts w (List.mem_filter.mp hw).1) hT ⟨by rw [g1]; exact Nat.le_refl _, fun q hq => by rw [g2]⟩ hnm htab hH hB hC _ _ _ _ _ hW0 s.heap [] ls hrel (fun _ h => nomatch h) hlv
  rw [← eav] at key
  intro T hTh X
  obtain ⟨t, a1, o, b1, b2, b3⟩ := key T hTh X
  refine ⟨t, a1, o, b1, b2, ?_⟩
  rcases b3 with ⟨⟨v, h2, hv, hq, -⟩, Lc, ⟨f1, f2, f3⟩, hfr⟩ | ⟨q, hq, E, ce, Lc, ⟨h2, hx2, -⟩, -⟩
  · have hq : v = some (.int 1) := Sum.inl.inj hq
    rw [hq] at hv
    have hv : o = .returned (some (.int 1)) := hv
    refine ⟨hv, f1, f2, ?_⟩
    exact f3.weaken (fun y hy hlt => absurd hlt (Nat.not_lt.mpr (by have := hfr y hy; rw [← g1]; exact this))) (Nat.le_refl _) (Nat.le_refl _)
  · exact absurd hx2 (fun z => by cases z)
