/-! CALLS, THROWS, COPIES, ROWS -/
theorem zstk {S r : List Value} {b : Nat} {x : Value} (hb : b ≤ S.length) (h : (S.take b).reverse = x :: r) : S = r.reverse ++ x :: S.drop b ∧ r.length + 1 = b := by
  have h1 : S.take b = r.reverse ++ [x] := by
    have := congrArg List.reverse h
    rw [List.reverse_reverse, List.reverse_cons] at this
    exact this
  refine ⟨?_, ?_⟩
  · have h2 := List.take_append_drop b S
    rw [h1, List.append_assoc] at h2
    exact h2.symm
  · have h3 := congrArg List.length h1
    simp at h3
    omega
theorem zstk0 {S : List Value} {b : Nat} : S = (S.take b).reverse.reverse ++ S.drop b := by
  rw [List.reverse_reverse, List.take_append_drop]
theorem zwt_map {G : zG} {S : List Value} : ((S.map (zv G)).map fun v => v.category).sum = zwt S := by
  unfold zwt
  rw [List.map_map]
  congr 1
  exact List.map_congr_left (fun v _ => zv_cat G v)
/-- a handler -/
def zCat (own : String) (c : Code) (cc : ByteArray) (n pc : Nat) (E : String) (t pl : Nat) : Prop := ∃ (pre : List ExceptionTableEntry) (x : ExceptionTableEntry) (suf : List ExceptionTableEntry), c.exceptionTable.toList = pre ++ x :: suf ∧ (∀ z ∈ pre, covers z pc = false ∨ (z.catchType ≠ 0 ∧ ∃ nm : String, Cond.classLink own z.catchType nm ∈ zGW ∧ (E, nm) ∈ zNC)) ∧ covers x pc = true ∧ x.catchType ≠ 0 ∧ Cond.classLink own x.catchType E ∈ zGW ∧ Cond.castable E E ∈ zXW ∧ ((∃ k : Fin 4, (k : Nat) = pl ∧ decode cc x.handlerPc = .ok (.astore_n k, 1) ∧ t = x.handlerPc + 1) ∨ (decode cc x.handlerPc = .ok (.astore pl, 2) ∧ t = x.handlerPc + 2)) ∧ pl < n
/-- a callee: its words, its name, its room -/
def zCe (R : Room) (Ma : zM) (b : Nat) : Prop := zhh Ma = none ∧ Cond.code (zy Ma) (zcc Ma) (zml Ma) (zrt Ma) ∈ zGW ∧ Cond.initialized (zy Ma).cls ∈ zGW ∧ ((zy Ma).cls ≠ "java/lang/invoke/MethodHandle" ∧ (zy Ma).cls ≠ "java/lang/invoke/VarHandle" ∧ (parseMethodDescriptor (zy Ma).desc).map (fun d => d.parameters.length) = some b) ∧ (zfr Ma + 1 ≤ R.frames ∧ 8 + (zml Ma + 11) + zlo Ma ≤ R.locals)
theorem zws_none {Ma : zM} (h : zhh Ma = none) : zws Ma = Cond.code (zy Ma) (zcc Ma) (zml Ma) (zrt Ma) :: zGW := by unfold zws zcd; rw [h]
theorem zws_in {Ma : zM} (h : zhh Ma = none) (hw : Cond.code (zy Ma) (zcc Ma) (zml Ma) (zrt Ma) ∈ zGW) : ∀ w ∈ zws Ma, w ∈ zGW := by
  rw [zws_none h]
  intro w h
  rcases List.mem_cons.mp h with rfl | h
  · exact hw
  · exact h
section ZI
variable {p : Program} {l : Launch} {e : Env} {R : Room} {s : State} {m : MethodId} {args : Array Value} {below : List Frame} {meth : Method} {c : Code} {Qf : State → Prop} {G : zG} {cc : ByteArray} {n pc : Nat} {K J : zK} {L : zL} {S : List Value} {h : zH} {kc ks mc ms : Nat} {own : String} {Q : zQ}
theorem zs_virtual (hx : p.tables.exec = Jvm.exec) (hb : c.code = cc) (hml : c.maxLocals = n) (hlocks : meth.locks = false) (hts : ∀ w ∈ zGW, w.before args s = true) (hown : s.vm.findClass own = some m.cls) (hT : zT G s) {Ma : zM} {i b : Nat} {hd : List (Nat × Nat × Nat × String × Nat)} {JJ : Nat → zK} {C : List Value → zH → zQ → Prop}
    (hC : ∀ av h' Q', C av h' Q' → zMet l G Ma av h' Q') (hCe : zCe R Ma (b - 1)) (w1 : Cond.methodLink own i (zy Ma) ∈ zGW) (w2 : Cond.instanceMethod (zy Ma) ∈ zGW) (w3 : Cond.selects (zy Ma).cls (zy Ma) (zy Ma) ∈ zGW) (hcl : ∀ r : vw_C, zcl[zown Ma]? = some r → r.1 = (zy Ma).cls)
    (hcat : ∀ E t pl, zthr hd pc E = some (t, pl) → zCat own c cc n pc E t pl) (hno : hd.isEmpty = true → ∀ x ∈ c.exceptionTable.toList, covers x pc = false) (hmc : R.cells = mc) (hms : R.slots = ms)
    (hdc : decode cc pc = .ok (.invokevirtual i, 3)) (hK : zimp K (zsim p l e R s m args below meth c G n (zend below G Q args s mc ms) (pc + 3))) (hJ : ∀ t, zimp (JJ t) (zsim p l e R s m args below meth c G n (zend below G Q args s mc ms) t))
    (hst : b ≤ S.length ∧ zwt (S.drop b) ≤ 8 ∧ kc + zmc Ma ≤ mc ∧ ks + zms Ma ≤ ms ∧ (match (S.take b).reverse with
      | .ref q :: r => zob (h.1 q) (zown Ma) fun _ => C (.ref q :: r) h fun x h2 => (match x with
        | .inl v => K L (v.toList ++ S.drop b) h2 (kc + zmc Ma) (ks + zms Ma)
        | .inr E => (match zthr hd pc E with
          | some (t, pl) => JJ t (L.filter (fun q => !(q.1 == pl) && !(q.1 + 1 == pl && q.2.category == 2))) [] h2 (kc + zmc Ma) (ks + zms Ma)
          | none => hd.isEmpty = true ∧ Q (.inr E) h2))
      | _ => False)) : zsim p l e R s m args below meth c G n (zend below G Q args s mc ms) pc L S h kc ks := by
  intro H locs ls hr hl hv
  obtain ⟨hbl, hwt, hc1, hs1, hst⟩ := hst
  obtain ⟨hhn, wc, wi, hdy, hrf, hrl⟩ := hCe
  split at hst
  · rename_i q r hq
    obtain ⟨eS, hlen⟩ := zstk hbl hq
    obtain ⟨h16, fs, rr, e1, hcall, hc, -, hob⟩ := zobj hr hst
    have hM := hC _ _ _ hcall
    obtain ⟨cell, g1, g2, g3, -⟩ := hob
    have hKa := hT.1.1 _ _ hc
    have hcls : s.vm.findClass (zy Ma).cls = some cell.cls := by rw [← hcl _ hc, g2]; exact hKa.2.1
    have hS9 : S.map (zv G) = (r.map (zv G)).reverse ++ .ref (zad G q) :: (S.drop b).map (zv G) := by
      conv => lhs; rw [eS]
      rw [List.map_append, List.map_reverse, List.map_cons]
      rfl
    rw [hS9]
    refine zgoX (vx_runV (C := (zy Ma).cls) (b := zad G q) (As := r.map (zv G)) (rest := (S.drop b).map (zv G)) ⟨hx, hb, hml, hown, hts⟩ hM
      (cwV (b - 1) hts (fun w hw => ?_) (zws_none hhn) rfl rfl ⟨rfl, hdy⟩ ⟨hrf, hrl⟩)
      ⟨zPc_blind G _ h, ⟨cell, g1, by rw [g3]; rfl, hcls⟩, fun U hU hW => ⟨rfl, by rw [hU]; exact hr.moved hW.alike, hT.warm hW⟩⟩ rfl (by rw [List.length_map]; omega) hv.1 rfl (lv_room (by rw [zwt_map]; exact hwt)) hdc ⟨by rw [hmc]; exact hc1, by rw [hms]; exact hs1⟩) hl ?_ ?_
    · rcases List.mem_append.mp hw with hw | hw
      · simp only [List.mem_cons, List.not_mem_nil, or_false] at hw
        rcases hw with rfl | rfl | rfl | rfl
        · exact zGW_good [_] (fun w hw => by rw [List.mem_singleton.mp hw]; exact w1) _ (fun _ h => h) _ (List.mem_singleton.mpr rfl)
        · exact zGW_good [_] (fun w hw => by rw [List.mem_singleton.mp hw]; exact w2) _ (fun _ h => h) _ (List.mem_singleton.mpr rfl)
        · exact zGW_good [_] (fun w hw => by rw [List.mem_singleton.mp hw]; exact w3) _ (fun _ h => h) _ (List.mem_singleton.mpr rfl)
        · exact zGW_good [_] (fun w hw => by rw [List.mem_singleton.mp hw]; exact wi) _ (fun _ h => h) _ (List.mem_singleton.mpr rfl)
      · exact zGW_good _ (zws_in hhn wc) _ (fun _ h => h) _ hw
    · intro E ce q9 h2 H2 locs2 hq2 hr2 hl2 hce hcv hcl2
      have hq3 : (match zthr hd pc E with
          | some (t, pl) => JJ t (L.filter (fun q => !(q.1 == pl) && !(q.1 + 1 == pl && q.2.category == 2))) [] h2 (kc + zmc Ma) (ks + zms Ma)
          | none => hd.isEmpty = true ∧ Q (.inr E) h2) := hq2
      split at hq3
      · rename_i t pl hth
        obtain ⟨pre, x, suf, f1, f2, f3, f4, f5, f6, f7, f8⟩ := hcat _ _ _ hth
        refine vx_catch (own := own) (name := E) hown pre x suf f1 (fun z hz => ?_) f3 f4 (hts _ f5) (va_Nw.use rfl (hT.2.2.2.2.1 _ f6)) hce hcv hcl2 ?_
        · rcases f2 z hz with f | ⟨f, nm, fl, fn⟩
          · exact Or.inl f
          · exact Or.inr ⟨f, nm, hts _ fl, hT.2.2.2.2.2.2.1 _ fn⟩
        · rcases f7 with ⟨k, rfl, fd, rfl⟩ | ⟨fd, rfl⟩
          · exact lv_astore_n hx hb fd rfl hv f8 rfl (fun ls2 hv2 => hJ _ _ _ _ _ _ hq3 H2 locs2 ls2 hr2 hl2 ⟨hv2.1, hv2.2.1, fun y hy => by
              obtain ⟨z, hz, rfl⟩ := List.mem_map.mp hy
              obtain ⟨z1, z2⟩ := List.mem_filter.mp hz
              refine hv2.2.2 _ (List.mem_cons_of_mem _ (List.mem_filter.mpr ⟨List.mem_map.mpr ⟨z, z1, rfl⟩, ?_⟩))
              show (!(z.1 == (k : Nat)) && !(z.1 + 1 == (k : Nat) && (zv G z.2).category == 2)) = true
              rw [zv_cat]
              exact z2⟩)
          · exact lv_astore hx hb fd hv f8 rfl (fun ls2 hv2 => hJ _ _ _ _ _ _ hq3 H2 locs2 ls2 hr2 hl2 ⟨hv2.1, hv2.2.1, fun y hy => by
              obtain ⟨z, hz, rfl⟩ := List.mem_map.mp hy
              obtain ⟨z1, z2⟩ := List.mem_filter.mp hz
              refine hv2.2.2 _ (List.mem_cons_of_mem _ (List.mem_filter.mpr ⟨List.mem_map.mpr ⟨z, z1, rfl⟩, ?_⟩))
              show (!(z.1 == pl) && !(z.1 + 1 == pl && (zv G z.2).category == 2)) = true
              rw [zv_cat]
              exact z2⟩)
      · exact vx_out (hno hq3.1) hlocks hce hcv hcl2 (fun t ht hA => ⟨h2, hq3.2, by rw [ht]; exact hr2.moved hA⟩) hl2 hc1 hs1
    · intro v h2 H2 locs2 hq2 hr2 hl2
      have kk := hK _ _ _ _ _ hq2 H2 locs2 ls hr2 hl2 hv
      have e9 : (v.toList ++ S.drop b).map (zv G) = (v.map (zv G)).toList ++ (S.drop b).map (zv G) := by cases v <;> simp
      rw [e9] at kk
      exact kk
  · exact hst.elim
theorem zs_static (hx : p.tables.exec = Jvm.exec) (hb : c.code = cc) (hml : c.maxLocals = n) (hts : ∀ w ∈ zGW, w.before args s = true) (hown : s.vm.findClass own = some m.cls) (hT : zT G s) {Ma : zM} {i b : Nat} {C : List Value → zH → zQ → Prop}
    (hC : ∀ av h' Q', C av h' Q' → zMet l G Ma av h' Q') (hCe : zCe R Ma b) (w1 : Cond.methodLink own i (zy Ma) ∈ zGW ∨ ∃ host, Cond.methodLinkNest own i (zy Ma) host ∈ zXW) (w2 : Cond.static (zy Ma) ∈ zGW) (hmc : R.cells = mc) (hms : R.slots = ms)
    (hdc : decode cc pc = .ok (.invokestatic i, 3)) (hK : zimp K (zsim p l e R s m args below meth c G n Qf (pc + 3)))
    (hst : b ≤ S.length ∧ zwt (S.drop b) ≤ 8 ∧ kc + zmc Ma ≤ mc ∧ ks + zms Ma ≤ ms ∧ C (S.take b).reverse h fun x h2 => (match x with
        | .inl v => K L (v.toList ++ S.drop b) h2 (kc + zmc Ma) (ks + zms Ma)
        | .inr _ => False)) : zsim p l e R s m args below meth c G n Qf pc L S h kc ks := by
  intro H locs ls hr hl hv
  obtain ⟨hbl, hwt, hc1, hs1, hst⟩ := hst
  obtain ⟨hhn, wc, wi, hdy, hrf, hrl⟩ := hCe
  have hM := (hC _ _ _ hst).sure (fun _ _ z => z)
  have hS9 : S.map (zv G) = (((S.take b).reverse).map (zv G)).reverse ++ (S.drop b).map (zv G) := by
    conv => lhs; rw [zstk0 (S := S) (b := b)]
    rw [List.map_append, List.map_reverse]
  have hlen : (((S.take b).reverse).map (zv G)).length = b := by rw [List.length_map, List.length_reverse, List.length_take]; omega
  have hpre : PreS s H (zPc G ((S.take b).reverse) h) (((S.take b).reverse).map (zv G)) := ⟨zPc_blind G _ h, fun U hU hW => ⟨rfl, by rw [hU]; exact hr.moved hW.alike, hT.warm hW⟩⟩
  have hin := zGW_good _ (zws_in hhn wc) _ (fun _ h => h)
  rw [hS9]
  have done : ∀ (v : Option Value) (h2 : zH) (H2 : Heap) (locs2 : List Loc), (match (Sum.inl v : Option Value ⊕ String) with
        | .inl v => K L (v.toList ++ S.drop b) h2 (kc + zmc Ma) (ks + zms Ma)
        | .inr _ => False) → zrel G s h2 H2 → (∀ x ∈ locs2, zb0 G ≤ x.base) → W p l e R s m args below meth c H2 locs2 (kc + zmc Ma) (ks + zms Ma) Qf (F0 m (pc + 3) ls ((v.map (zv G)).toList ++ (S.drop b).map (zv G))) := by
    intro v h2 H2 locs2 hq2 hr2 hl2
    have kk := hK _ _ _ _ _ hq2 H2 locs2 ls hr2 hl2 hv
    have e9 : (v.toList ++ S.drop b).map (zv G) = (v.map (zv G)).toList ++ (S.drop b).map (zv G) := by cases v <;> simp
    rw [e9] at kk
    exact kk
  rcases w1 with w1 | ⟨host, w1⟩
  · exact zgoA (va_runS (own := own) (As := ((S.take b).reverse).map (zv G)) (rest := (S.drop b).map (zv G)) ⟨hx, hb, hml, hown, hts⟩ hM
      ⟨callB_of b hts hin (zws_none hhn) rfl rfl (hts _ wi) (hts _ w1) hdy ⟨hrf, hrl⟩, hts _ w2⟩ hpre rfl hlen hv.1 rfl (lv_room (by rw [zwt_map]; exact hwt)) hdc ⟨by rw [hmc]; exact hc1, by rw [hms]; exact hs1⟩) hl done
  · exact zgoA (va_runSN (own := own) (host := host) (As := ((S.take b).reverse).map (zv G)) (rest := (S.drop b).map (zv G)) ⟨hx, hb, hml, hown, hts⟩ hM
      ⟨va_cnB b hts hin (zws_none hhn) rfl rfl (hT.2.2.2.2.1 _ w1) (hts _ wi) hdy ⟨hrf, hrl⟩, hts _ w2, trivial⟩ hpre rfl hlen hv.1 rfl (lv_room (by rw [zwt_map]; exact hwt)) hdc ⟨by rw [hmc]; exact hc1, by rw [hms]; exact hs1⟩) hl done
/-- the law's own wrappers: they have tables of their own -/
theorem zs_staticW (hx : p.tables.exec = Jvm.exec) (hb : c.code = cc) (hml : c.maxLocals = n) (hts : ∀ w ∈ zGW, w.before args s = true) (hown : s.vm.findClass own = some m.cls) (hT : zT G s) {Ma : zM} {i b : Nat} {C : List Value → zH → zQ → Prop} {hh : List (Nat × Nat × Nat × Nat)}
    (hC : ∀ av h' Q', C av h' Q' → zMet l G Ma av h' Q') (hhn : zhh Ma = some hh) (wc : Cond.codeWith (zy Ma) (zcc Ma) (zml Ma) (zrt Ma) hh ∈ zGW) (wi : Cond.initialized (zy Ma).cls ∈ zGW) (hdy : (zy Ma).cls ≠ "java/lang/invoke/MethodHandle" ∧ (zy Ma).cls ≠ "java/lang/invoke/VarHandle" ∧ (parseMethodDescriptor (zy Ma).desc).map (fun d => d.parameters.length) = some b) (hrr : zfr Ma + 1 ≤ R.frames ∧ 8 + (zml Ma + 11) + zlo Ma ≤ R.locals) (w1 : Cond.methodLink own i (zy Ma) ∈ zGW) (w2 : Cond.static (zy Ma) ∈ zGW) (hmc : R.cells = mc) (hms : R.slots = ms)
    (hdc : decode cc pc = .ok (.invokestatic i, 3)) (hK : zimp K (zsim p l e R s m args below meth c G n Qf (pc + 3)))
    (hst : b ≤ S.length ∧ zwt (S.drop b) ≤ 8 ∧ kc + zmc Ma ≤ mc ∧ ks + zms Ma ≤ ms ∧ C (S.take b).reverse h fun x h2 => (match x with
        | .inl v => K L (v.toList ++ S.drop b) h2 (kc + zmc Ma) (ks + zms Ma)
        | .inr _ => False)) : zsim p l e R s m args below meth c G n Qf pc L S h kc ks := by
  intro H locs ls hr hl hv
  obtain ⟨hbl, hwt, hc1, hs1, hst⟩ := hst
  have hM := (hC _ _ _ hst).sure (fun _ _ z => z)
  have hwsE : zws Ma = Cond.codeWith (zy Ma) (zcc Ma) (zml Ma) (zrt Ma) hh :: zGW := by unfold zws zcd; rw [hhn]
  have hS9 : S.map (zv G) = (((S.take b).reverse).map (zv G)).reverse ++ (S.drop b).map (zv G) := by
    conv => lhs; rw [zstk0 (S := S) (b := b)]
    rw [List.map_append, List.map_reverse]
  have hlen : (((S.take b).reverse).map (zv G)).length = b := by rw [List.length_map, List.length_reverse, List.length_take]; omega
  have hpre : PreS s H (zPc G ((S.take b).reverse) h) (((S.take b).reverse).map (zv G)) := ⟨zPc_blind G _ h, fun U hU hW => ⟨rfl, by rw [hU]; exact hr.moved hW.alike, hT.warm hW⟩⟩
  have hin : ∀ w ∈ zws Ma, w ∈ zGW := by
    rw [hwsE]
    intro w h
    rcases List.mem_cons.mp h with rfl | h
    · exact wc
    · exact h
  rw [hS9]
  refine zgoA (vx_runSW (own := own) (As := ((S.take b).reverse).map (zv G)) (rest := (S.drop b).map (zv G)) ⟨hx, hb, hml, hown, hts⟩ hM (vx_cwSW b hts (fun w hw => ?_) hwsE rfl rfl hdy hrr) hpre rfl hlen hv.1 rfl (lv_room (by rw [zwt_map]; exact hwt)) hdc ⟨by rw [hmc]; exact hc1, by rw [hms]; exact hs1⟩) hl ?_
  · rcases List.mem_append.mp hw with hw | hw
    · simp only [List.mem_cons, List.not_mem_nil, or_false] at hw
      rcases hw with rfl | rfl | rfl
      · exact zGW_good [_] (fun w hw => by rw [List.mem_singleton.mp hw]; exact w1) _ (fun _ h => h) _ (List.mem_singleton.mpr rfl)
      · exact zGW_good [_] (fun w hw => by rw [List.mem_singleton.mp hw]; exact w2) _ (fun _ h => h) _ (List.mem_singleton.mpr rfl)
      · exact zGW_good [_] (fun w hw => by rw [List.mem_singleton.mp hw]; exact wi) _ (fun _ h => h) _ (List.mem_singleton.mpr rfl)
    · exact zGW_good _ hin _ (fun _ h => h) _ hw
  · intro v h2 H2 locs2 hq2 hr2 hl2
    have kk := hK _ _ _ _ _ hq2 H2 locs2 ls hr2 hl2 hv
    have e9 : (v.toList ++ S.drop b).map (zv G) = (v.map (zv G)).toList ++ (S.drop b).map (zv G) := by cases v <;> simp
    rw [e9] at kk
    exact kk
theorem zs_special (hx : p.tables.exec = Jvm.exec) (hb : c.code = cc) (hml : c.maxLocals = n) (hts : ∀ w ∈ zGW, w.before args s = true) (hown : s.vm.findClass own = some m.cls) (hT : zT G s) {Ma : zM} {i b : Nat} {C : List Value → zH → zQ → Prop}
    (hC : ∀ av h' Q', C av h' Q' → zMet l G Ma av h' Q') (hCe : zCe R Ma (b - 1)) (hrt : zrt Ma = none) (hnm : (zy Ma).name = "<init>") (w1 : Cond.methodLink own i (zy Ma) ∈ zGW ∨ ∃ host, Cond.methodLinkNest own i (zy Ma) host ∈ zXW) (w2 : Cond.instanceMethod (zy Ma) ∈ zGW) (hmc : R.cells = mc) (hms : R.slots = ms)
    (hdc : decode cc pc = .ok (.invokespecial i, 3)) (hK : zimp K (zsim p l e R s m args below meth c G n Qf (pc + 3)))
    (hst : b ≤ S.length ∧ zwt (S.drop b) ≤ 8 ∧ kc + zmc Ma ≤ mc ∧ ks + zms Ma ≤ ms ∧ (match (S.take b).reverse with
      | .ref q :: r => C (.ref q :: r) h fun x h2 => (match x with
        | .inl none => K L (S.drop b) h2 (kc + zmc Ma) (ks + zms Ma)
        | _ => False)
      | _ => False)) : zsim p l e R s m args below meth c G n Qf pc L S h kc ks := by
  intro H locs ls hr hl hv
  obtain ⟨hbl, hwt, hc1, hs1, hst⟩ := hst
  obtain ⟨hhn, wc, wi, hdy, hrf, hrl⟩ := hCe
  split at hst
  · rename_i q r hq
    obtain ⟨eS, hlen⟩ := zstk hbl hq
    have hM := (hC _ _ _ hst).sure (fun _ _ z => z)
    have hS9 : S.map (zv G) = (r.map (zv G)).reverse ++ .ref (zad G q) :: (S.drop b).map (zv G) := by
      conv => lhs; rw [eS]
      rw [List.map_append, List.map_reverse, List.map_cons]
      rfl
    have hlen2 : (r.map (zv G)).length = b - 1 := by rw [List.length_map]; omega
    have hpre : PreS s H (zPc G (.ref q :: r) h) (.ref (zad G q) :: r.map (zv G)) := ⟨zPc_blind G _ h, fun U hU hW => ⟨rfl, by rw [hU]; exact hr.moved hW.alike, hT.warm hW⟩⟩
    have hin := zGW_good _ (zws_in hhn wc) _ (fun _ h => h)
    have hwsE : zws Ma = Cond.code (zy Ma) (zcc Ma) (zml Ma) none :: zGW := by rw [zws_none hhn, hrt]
    rw [hS9]
    have done : ∀ (v : Option Value) (h2 : zH) (H2 : Heap) (locs2 : List Loc), (match (Sum.inl v : Option Value ⊕ String) with
        | .inl none => K L (S.drop b) h2 (kc + zmc Ma) (ks + zms Ma)
        | _ => False) → zrel G s h2 H2 → (∀ x ∈ locs2, zb0 G ≤ x.base) → W p l e R s m args below meth c H2 locs2 (kc + zmc Ma) (ks + zms Ma) Qf (F0 m (pc + 3) ls ((v.map (zv G)).toList ++ (S.drop b).map (zv G))) := by
      intro v h2 H2 locs2 hq2 hr2 hl2
      cases v with
      | none => exact hK _ _ _ _ _ hq2 H2 locs2 ls hr2 hl2 hv
      | some v => exact hq2.elim
    rcases w1 with w1 | ⟨host, w1⟩
    · exact zgoA (va_runI (own := own) (b := zad G q) (As := r.map (zv G)) (rest := (S.drop b).map (zv G)) ⟨hx, hb, hml, hown, hts⟩ hM
        (cwI (b - 1) hts hin hwsE rfl rfl (hts _ wi) (hts _ w1) (hts _ w2) hnm hdy ⟨hrf, hrl⟩) hpre rfl hlen2 hv.1 rfl (lv_room (by rw [zwt_map]; exact hwt)) hdc ⟨by rw [hmc]; exact hc1, by rw [hms]; exact hs1⟩) hl done
    · exact zgoA (va_runIN (own := own) (host := host) (b := zad G q) (As := r.map (zv G)) (rest := (S.drop b).map (zv G)) ⟨hx, hb, hml, hown, hts⟩ hM
        ⟨va_cnB (b - 1) hts hin hwsE rfl rfl (hT.2.2.2.2.1 _ w1) (hts _ wi) hdy ⟨hrf, hrl⟩, hnm, hts _ w2⟩ hpre rfl hlen2 hv.1 rfl (lv_room (by rw [zwt_map]; exact hwt)) hdc ⟨by rw [hmc]; exact hc1, by rw [hms]; exact hs1⟩) hl done
  · exact hst.elim
end ZI
