/-! COPIES, ROWS OF ROWS, THROWS -/
theorem zrel.rows {G : zG} {U : State} {h : zH} {H H1 : Heap} {N K : Nat} (hr : zrel G U h H) (hs : H1.size = H.size + 1 + N) (ho : ∀ q : Nat, q < H.size → H1[q]? = H[q]?) (hc : H1[H.size]? = some (vp_cell (zdA G 2) (N, .inr (.inr (.inr (.inr (fun j => if j < N then some (H.size + 1 + j) else none))))))) (hi : ∀ j : Nat, j < N → H1[H.size + 1 + j]? = some (vp_cell (zdA G 0) (K, .inl (fun _ => 0)))) : zrel G U (zrows h N K) H1 := by
  have ht := hr.top
  obtain ⟨h1, h2, h3, h4, h5⟩ := hr
  have hj : ∀ j, zad G (h.2 + 1 + j) = H.size + 1 + j := fun j => by
    rw [zad_hi (by omega)]
    omega
  refine ⟨by show 16 ≤ h.2 + 1 + N; omega, by show H1.size + 16 = zb0 G + (h.2 + 1 + N); omega, fun q hq => by rw [ho q (by omega)]; exact h3 q hq, fun i hi2 => ?_, fun i hi2 => ?_⟩
  · refine ⟨(h4 i hi2).1, ?_⟩
    show zat0 G U i (if i = h.2 then _ else if h.2 < i ∧ i ≤ h.2 + N then _ else h.1 i) H1
    rw [if_neg (by omega), if_neg (by omega)]
    exact (h4 i hi2).2.kept (ho _ (by have := (h4 i hi2).1; omega))
  · show zat G i (if i = h.2 then _ else if h.2 < i ∧ i ≤ h.2 + N then _ else h.1 i) H1
    by_cases e1 : i = h.2
    · subst e1
      rw [if_pos rfl]
      show H1[zad G h.2]? = _
      rw [ht, hc]
      congr 2
      show _ = zva G _
      unfold zva
      congr 5
      funext j
      show _ = Option.map (zad G) (if j < N then some (h.2 + 1 + j) else none)
      by_cases hjN : j < N
      · rw [if_pos hjN, if_pos hjN, Option.map_some, hj]
      · rw [if_neg hjN, if_neg hjN]
        rfl
    · rw [if_neg e1]
      by_cases e2 : h.2 < i ∧ i ≤ h.2 + N
      · rw [if_pos e2]
        show H1[zad G i]? = _
        have e3 := hi (i - h.2 - 1) (by omega)
        have e4 := hj (i - h.2 - 1)
        rw [show h.2 + 1 + (i - h.2 - 1) = i by omega] at e4
        rw [e4, e3]
        rfl
      · rw [if_neg e2]
        rcases (h5 i hi2).lt with ⟨fs, e⟩ | hl
        · rw [e]; trivial
        · exact (h5 i hi2).kept (ho _ hl)
section ZJ
variable {p : Program} {l : Launch} {e : Env} {R : Room} {s : State} {m : MethodId} {args : Array Value} {below : List Frame} {meth : Method} {c : Code} {Qf : State → Prop} {G : zG} {cc : ByteArray} {n pc : Nat} {K J : zK} {L : zL} {S : List Value} {h : zH} {kc ks mc ms : Nat} {own : String} {Q : zQ}
theorem zs_multi (hx : p.tables.exec = Jvm.exec) (hb : c.code = cc) (hts : ∀ w ∈ zGW, w.before args s = true) (hown : s.vm.findClass own = some m.cls) (hT : zT G s) {i : Nat} (w1 : Cond.classLink own i ("[" ++ (FieldType.array .int).toString) ∈ zGW) (w2 : Cond.arrayClass .int ∈ zGW) (hd : decode cc pc = .ok (.multianewarray i 2, 4)) (hmc : R.cells = mc) (hms : R.slots = ms) (hK : zimp K (zsim p l e R s m args below meth c G n Qf (pc + 4)))
    (hst : zi2 S fun n z S => ¬ n < 0 ∧ ¬ z < 0 ∧ n.toNatClampNeg ≤ 1000000 ∧ z.toNatClampNeg ≤ 1000000 ∧ kc + (1 + n.toNatClampNeg) ≤ mc ∧ ks + (n.toNatClampNeg + n.toNatClampNeg * z.toNatClampNeg) ≤ ms ∧ K L (.ref h.2 :: S) (zrows h n.toNatClampNeg z.toNatClampNeg) (kc + 1 + n.toNatClampNeg) (ks + n.toNatClampNeg + n.toNatClampNeg * z.toNatClampNeg)) : zsim p l e R s m args below meth c G n Qf pc L S h kc ks := by
  intro H locs ls hr hl hv
  match S, hst with
  | .int z :: .int N :: S, ⟨hn, hz, hN, hZ, hc1, hs1, hf⟩ =>
    have ht := hr.top
    intro T hTh Xs
    obtain ⟨vm₁, cA, comp, -, fA, fC, hO, -, X', step⟩ := Xs.multianewarray2F hx hown (hts _ w1) (show (Cond.arrayOver (.array .int)).before args s = true from hT.2.2.2.2.2.2.2.1) (hts _ w2) (g := F0 m pc ls (.int z :: .int N :: S.map (zv G))) rfl (by rw [hb]; exact hd) rfl hn hz (by omega) (by show z.toNatClampNeg * 4 ≤ _; omega) (by omega) rfl rfl (by rw [hmc]; exact hc1) (by rw [hms]; exact hs1)
    have eA : cA = zdA G 2 := Option.some.inj (fA.symm.trans (hT.1.2 2 _ rfl).2)
    have eC : comp = zdA G 0 := Option.some.inj (fC.symm.trans (hT.1.2 0 _ rfl).2)
    subst eA
    subst eC
    have hTh2 : (T.setVm vm₁).heap = H := hTh
    obtain ⟨f1, f2, -, -⟩ := Jvm.Free.Multi.fill_facts (T.setVm vm₁) (zdA G 2) (zdA G 0) N.toNatClampNeg z.toNatClampNeg (defaultValue .int) N.toNatClampNeg
    have f3 := fun (x : Nat) (hx0 : x < H.size) => Jvm.Free.Multi.fill_old (T.setVm vm₁) (zdA G 2) (zdA G 0) N.toNatClampNeg z.toNatClampNeg (defaultValue .int) (a := x) (by rw [hTh2]; exact hx0) N.toNatClampNeg
    have f4 := fun (j : Nat) (hj : j < N.toNatClampNeg) => Jvm.Free.Multi.fill_inner (T.setVm vm₁) (zdA G 2) (zdA G 0) N.toNatClampNeg z.toNatClampNeg (defaultValue .int) N.toNatClampNeg j hj
    generalize Jvm.Free.Multi.fill (T.setVm vm₁) (zdA G 2) (zdA G 0) N.toNatClampNeg z.toNatClampNeg (defaultValue .int) N.toNatClampNeg = F at X' step f1 f2 f3 f4
    rw [hTh2] at f1 f2 f3 f4
    have kk := hK _ _ _ _ _ hf F.heap locs ls (hr.rows (by rw [f1]) (fun x hx0 => f3 x hx0) (by rw [f2, vp_cell_q]; exact congrArg some (vr_outer _ _ _ _)) (fun j hj => by rw [f4 j hj, vp_cell_i, ← arrV_new]; rfl)) hl hv
    have e9 : (Value.ref h.2 :: S).map (zv G) = .ref T.heap.size :: S.map (zv G) := by
      rw [List.map_cons]
      show Value.ref (zad G h.2) :: _ = _
      rw [ht, hTh]
    rw [e9] at kk
    obtain ⟨t, a1, b1⟩ := kk F rfl X'
    exact ⟨t, step t a1, b1⟩
theorem zs_copyI (hx : p.tables.exec = Jvm.exec) (hb : c.code = cc) (hml : c.maxLocals = n) (hts : ∀ w ∈ zGW, w.before args s = true) (hown : s.vm.findClass own = some m.cls) (hT : zT G s) {i : Nat} (w1 : Cond.methodLink own i arraycopyName ∈ zGW) (w2 : Cond.native arraycopyName ∈ zGW) (w3 : Cond.static arraycopyName ∈ zGW) (w4 : Cond.initialized "java/lang/System" ∈ zGW) (hRf : 1 ≤ R.frames) (hRl : 8 + (nativeFrameWords "java/lang/System" "arraycopy" 5 + 11) ≤ R.locals) (hd : decode cc pc = .ok (.invokestatic i, 3)) (hK : zimp K (zsim p l e R s m args below meth c G n Qf (pc + 3)))
    (hst : zcpS S fun n dp q sp q0 S => ¬ sp < 0 ∧ ¬ dp < 0 ∧ ¬ n < 0 ∧ 16 ≤ q ∧ 16 ≤ q0 ∧ zwt S ≤ 8 ∧ (zaI (h.1 q0) fun n0 f => zaI (h.1 q) fun n1 g => sp.toNatClampNeg + n.toNatClampNeg ≤ n0 ∧ dp.toNatClampNeg + n.toNatClampNeg ≤ n1 ∧ K L S (zup h q (.inl (0, n1, .inl (va_cpy f g sp.toNatClampNeg dp.toNatClampNeg n.toNatClampNeg)))) kc ks)) : zsim p l e R s m args below meth c G n Qf pc L S h kc ks := by
  intro H locs ls hr hl hv
  match S, hst with
  | .int N :: .int dp :: .ref q :: .int sp :: .ref q0 :: S, ⟨h1, h2, h3, h16, h17, hwt, hst⟩ =>
    obtain ⟨n0, f, e1, hst2, hq0⟩ := zarI hr hst
    obtain ⟨n1, g, e2, ⟨h4, h5, hf⟩, hq1⟩ := zarI hr hst2
    rcases hq1 with ⟨hq1, -⟩ | ⟨-, hc1⟩
    · exact absurd h16 (Nat.not_le.mpr hq1)
    rcases hq0 with ⟨hq0, -⟩ | ⟨hq0, hc0⟩
    · exact absurd h17 (Nat.not_le.mpr hq0)
    · have nn : ∀ z : Int32, ¬ z < 0 → z.toInt = (z.toNatClampNeg : Int) := by
        intro z hz
        have hz0 : (0 : Int) ≤ z.toInt := by
          have := Int32.not_lt.mp hz
          simpa using Int32.le_iff_toInt_le.mp this
        show z.toInt = ((z.toInt.toNat : Nat) : Int)
        omega
      intro T hTh X
      obtain ⟨-, k0, hk0, cm0, hkk0⟩ := (hT.1.2 0 _ rfl).1 n0 (fun j => .int (f j))
      obtain ⟨-, k1, hk1, cm1, hkk1⟩ := (hT.1.2 0 _ rfl).1 n1 (fun j => .int (g j))
      obtain ⟨vm', X', step⟩ := X.arraycopy hx hown (hts _ w1) (hts _ w2) (hts _ w3) (hts _ w4) (src := zad G q0) (dst := zad G q) (cs := vp_cell (zdA G 0) (n0, .inl f)) (cd := vp_cell (zdA G 0) (n1, .inl g)) (srcPos := sp) (destPos := dp) (n := N) (by rw [hTh]; exact hc0) (by rw [hTh]; exact hc1)
        (fun _ h => by cases h) (fun _ h => by cases h) (fun h => by cases h) (fun h => by cases h) hk0 hk1 hkk0 hkk1 (by simp [refKind]) h1 h2 h3
        (by rw [nn sp h1, nn N h3]; show ¬ _ > ((arrV (zdA G 0) n0 (fun j => .int (f j))).slots.size : Int); rw [arrV_size]; omega)
        (by rw [nn dp h2, nn N h3]; show ¬ _ > ((arrV (zdA G 0) n1 (fun j => .int (g j))).slots.size : Int); rw [arrV_size]; omega)
        (fun vm₁ _ i hi => by
          have e : (vp_cell (zdA G 0) (n0, .inl f)).slots.getD (sp.toNatClampNeg + i) .null = .int (f (sp.toNatClampNeg + i)) := by
            show (arrV (zdA G 0) n0 (fun j => .int (f j))).slots.getD _ _ = _
            rw [Array.getD_eq_getD_getElem?, arrV_read _ _ (by omega)]
            rfl
          refine ⟨?_, ?_⟩
          · rw [e]
            rfl
          · rw [e]
            exact trivial)
        (g := F0 m pc ls (.int N :: .int dp :: .ref (zad G q) :: .int sp :: .ref (zad G q0) :: S.map (zv G))) rfl (by rw [hml]; exact hv.1) (rest := S.map (zv G)) rfl (by rw [hb]; exact hd) hRf (by show 2 * 0 + _ + _ ≤ _; rw [zwt_map]; omega)
      have e3 : copied (vp_cell (zdA G 0) (n0, .inl f)) (vp_cell (zdA G 0) (n1, .inl g)) sp dp N = vp_cell (zdA G 0) (n1, .inl (va_cpy f g sp.toNatClampNeg dp.toNatClampNeg N.toNatClampNeg)) := va_copied (fun z => .int z) (zdA G 0) (zdA G 0) f g h4
      rw [e3] at X' step
      have hlt : zad G q < H.size := (Array.getElem?_eq_some_iff.mp hc1).1
      have hheap : ((T.setVm vm').setCell (zad G q) (vp_cell (zdA G 0) (n1, .inl (va_cpy f g sp.toNatClampNeg dp.toNatClampNeg N.toNatClampNeg)))).heap = H.setIfInBounds (zad G q) (vp_cell (zdA G 0) (n1, .inl (va_cpy f g sp.toNatClampNeg dp.toNatClampNeg N.toNatClampNeg))) := by rw [← hTh]; rfl
      have kk := fun (locs2 : List Loc) (hl2 : ∀ x ∈ locs2, zb0 G ≤ x.base) => hK _ _ _ _ _ hf (H.setIfInBounds (zad G q) (vp_cell (zdA G 0) (n1, .inl (va_cpy f g sp.toNatClampNeg dp.toNatClampNeg N.toNatClampNeg)))) locs2 ls (hr.put h16 (by simp) (fun x hx0 => by simp [Array.getElem?_setIfInBounds, Ne.symm hx0]) (show (H.setIfInBounds (zad G q) _)[zad G q]? = some _ by simp [Array.getElem?_setIfInBounds, hlt]; rfl)) hl2 hv
      obtain ⟨t, a1, b1⟩ := kk _ (by
        intro x hx0
        rcases List.mem_append.mp hx0 with hx0 | hx0
        · exact hl x hx0
        · obtain ⟨z, -, hz⟩ := List.mem_map.mp hx0
          rw [← hz]
          show zb0 G ≤ zad G q
          rw [zad_hi h16]; omega) _ hheap X'
      exact ⟨t, step t a1, b1⟩
theorem zs_copyL (hx : p.tables.exec = Jvm.exec) (hb : c.code = cc) (hml : c.maxLocals = n) (hts : ∀ w ∈ zGW, w.before args s = true) (hown : s.vm.findClass own = some m.cls) (hT : zT G s) {i : Nat} (w1 : Cond.methodLink own i arraycopyName ∈ zGW) (w2 : Cond.native arraycopyName ∈ zGW) (w3 : Cond.static arraycopyName ∈ zGW) (w4 : Cond.initialized "java/lang/System" ∈ zGW) (hRf : 1 ≤ R.frames) (hRl : 8 + (nativeFrameWords "java/lang/System" "arraycopy" 5 + 11) ≤ R.locals) (hd : decode cc pc = .ok (.invokestatic i, 3)) (hK : zimp K (zsim p l e R s m args below meth c G n Qf (pc + 3)))
    (hst : zcpS S fun n dp q sp q0 S => ¬ sp < 0 ∧ ¬ dp < 0 ∧ ¬ n < 0 ∧ 16 ≤ q ∧ 16 ≤ q0 ∧ zwt S ≤ 8 ∧ (zaL (h.1 q0) fun n0 f => zaL (h.1 q) fun n1 g => sp.toNatClampNeg + n.toNatClampNeg ≤ n0 ∧ dp.toNatClampNeg + n.toNatClampNeg ≤ n1 ∧ K L S (zup h q (.inl (1, n1, .inr (.inl (va_cpy f g sp.toNatClampNeg dp.toNatClampNeg n.toNatClampNeg))))) kc ks)) : zsim p l e R s m args below meth c G n Qf pc L S h kc ks := by
  intro H locs ls hr hl hv
  match S, hst with
  | .int N :: .int dp :: .ref q :: .int sp :: .ref q0 :: S, ⟨h1, h2, h3, h16, h17, hwt, hst⟩ =>
    obtain ⟨n0, f, e1, hst2, -, hc0⟩ := zarL hr hst
    obtain ⟨n1, g, e2, ⟨h4, h5, hf⟩, -, hc1⟩ := zarL hr hst2
    · have nn : ∀ z : Int32, ¬ z < 0 → z.toInt = (z.toNatClampNeg : Int) := by
        intro z hz
        have hz0 : (0 : Int) ≤ z.toInt := by
          have := Int32.not_lt.mp hz
          simpa using Int32.le_iff_toInt_le.mp this
        show z.toInt = ((z.toInt.toNat : Nat) : Int)
        omega
      intro T hTh X
      obtain ⟨-, k0, hk0, cm0, hkk0⟩ := (hT.1.2 1 _ rfl).1 n0 (fun j => .long (f j))
      obtain ⟨-, k1, hk1, cm1, hkk1⟩ := (hT.1.2 1 _ rfl).1 n1 (fun j => .long (g j))
      obtain ⟨vm', X', step⟩ := X.arraycopy hx hown (hts _ w1) (hts _ w2) (hts _ w3) (hts _ w4) (src := zad G q0) (dst := zad G q) (cs := vp_cell (zdA G 1) (n0, .inr (.inl f))) (cd := vp_cell (zdA G 1) (n1, .inr (.inl g))) (srcPos := sp) (destPos := dp) (n := N) (by rw [hTh]; exact hc0) (by rw [hTh]; exact hc1)
        (fun _ h => by cases h) (fun _ h => by cases h) (fun h => by cases h) (fun h => by cases h) hk0 hk1 hkk0 hkk1 (by simp [refKind]) h1 h2 h3
        (by rw [nn sp h1, nn N h3]; show ¬ _ > ((arrV (zdA G 1) n0 (fun j => .long (f j))).slots.size : Int); rw [arrV_size]; omega)
        (by rw [nn dp h2, nn N h3]; show ¬ _ > ((arrV (zdA G 1) n1 (fun j => .long (g j))).slots.size : Int); rw [arrV_size]; omega)
        (fun vm₁ _ i hi => by
          have e : (vp_cell (zdA G 1) (n0, .inr (.inl f))).slots.getD (sp.toNatClampNeg + i) .null = .long (f (sp.toNatClampNeg + i)) := by
            show (arrV (zdA G 1) n0 (fun j => .long (f j))).slots.getD _ _ = _
            rw [Array.getD_eq_getD_getElem?, arrV_read _ _ (by omega)]
            rfl
          refine ⟨?_, ?_⟩
          · rw [e]
            rfl
          · rw [e]
            exact trivial)
        (g := F0 m pc ls (.int N :: .int dp :: .ref (zad G q) :: .int sp :: .ref (zad G q0) :: S.map (zv G))) rfl (by rw [hml]; exact hv.1) (rest := S.map (zv G)) rfl (by rw [hb]; exact hd) hRf (by show 2 * 0 + _ + _ ≤ _; rw [zwt_map]; omega)
      have e3 : copied (vp_cell (zdA G 1) (n0, .inr (.inl f))) (vp_cell (zdA G 1) (n1, .inr (.inl g))) sp dp N = vp_cell (zdA G 1) (n1, .inr (.inl (va_cpy f g sp.toNatClampNeg dp.toNatClampNeg N.toNatClampNeg))) := va_copied (fun z => .long z) (zdA G 1) (zdA G 1) f g h4
      rw [e3] at X' step
      have hlt : zad G q < H.size := (Array.getElem?_eq_some_iff.mp hc1).1
      have hheap : ((T.setVm vm').setCell (zad G q) (vp_cell (zdA G 1) (n1, .inr (.inl (va_cpy f g sp.toNatClampNeg dp.toNatClampNeg N.toNatClampNeg))))).heap = H.setIfInBounds (zad G q) (vp_cell (zdA G 1) (n1, .inr (.inl (va_cpy f g sp.toNatClampNeg dp.toNatClampNeg N.toNatClampNeg)))) := by rw [← hTh]; rfl
      have kk := fun (locs2 : List Loc) (hl2 : ∀ x ∈ locs2, zb0 G ≤ x.base) => hK _ _ _ _ _ hf (H.setIfInBounds (zad G q) (vp_cell (zdA G 1) (n1, .inr (.inl (va_cpy f g sp.toNatClampNeg dp.toNatClampNeg N.toNatClampNeg))))) locs2 ls (hr.put h16 (by simp) (fun x hx0 => by simp [Array.getElem?_setIfInBounds, Ne.symm hx0]) (show (H.setIfInBounds (zad G q) _)[zad G q]? = some _ by simp [Array.getElem?_setIfInBounds, hlt]; rfl)) hl2 hv
      obtain ⟨t, a1, b1⟩ := kk _ (by
        intro x hx0
        rcases List.mem_append.mp hx0 with hx0 | hx0
        · exact hl x hx0
        · obtain ⟨z, -, hz⟩ := List.mem_map.mp hx0
          rw [← hz]
          show zb0 G ≤ zad G q
          rw [zad_hi h16]; omega) _ hheap X'
      exact ⟨t, step t a1, b1⟩
end ZJ
