/-! THE INSTRUCTIONS THAT READ AND WRITE CELLS -/
/-- what the tables say of the worlds' classes -/
def zCLok : Prop := ∀ (ci : Nat) (r : vw_C), zcl[ci]? = some r → (∀ w ∈ u_ws r.1 r.2.1 r.2.2, w ∈ zGW) ∧ (∀ k, k < r.2.2 → parseFieldDescriptor (r.2.1 k).2.2.1 = some (zty ci k)) ∧ (∀ a, a < r.2.2 → ∀ b, b < r.2.2 → a ≠ b → (r.2.1 a).2.1 ≠ (r.2.1 b).2.1) ∧ zsz.getD ci 0 = r.2.2 ∧ ∀ k, k < r.2.2 → defaultValue (zty ci k) = zdef (zty ci k)
def zKn (G : zG) (U : State) : Prop := va_K (zdC G, zdI G) zcl [(zdA G 0, .int), (zdA G 1, .long), (zdA G 2, .array .int)] U
/-- a field by the constant pool's place -/
def zFl (own : String) (idx ci k : Nat) : Prop := ∃ r : vw_C, zcl[ci]? = some r ∧ k < r.2.2 ∧ Cond.fieldLink own idx (r.2.1 k).1 (r.2.1 k).2.1 (r.2.1 k).2.2.1 ∈ zGW
theorem zv_fit {G : zG} {ty : FieldType} {v : Value} (h : zfit ty v = true) : narrow ty (zv G v) = zv G v ∧ fits ty (zv G v) = true := by
  cases ty <;> cases v <;> first | exact ⟨rfl, rfl⟩ | (exact absurd h (by decide)) | (simp [zfit] at h)
theorem zv_def (G : zG) (ty : FieldType) : zv G (zdef ty) = zdef ty := by cases ty <;> rfl
theorem zobj {G : zG} {U : State} {h : zH} {H : Heap} {q a : Nat} {F : List Value → Prop} (hr : zrel G U h H) (ho : zob (h.1 q) a F) : 16 ≤ q ∧ ∃ (fs : List Value) (r : vw_C), h.1 q = .inr (a + 1, fs) ∧ F fs ∧ zcl[a]? = some r ∧ fs.length = r.2.2 ∧ t_OB (zad G q) (zdC G a) r.2.2 (zdI G a) H (vp_V (fs.map (zv G))) := by
  have h1 : ∃ fs, h.1 q = .inr (a + 1, fs) ∧ F fs := by
    unfold zob at ho
    split at ho
    · rename_i n fs e
      obtain ⟨rfl, hF⟩ := ho
      exact ⟨fs, e, hF⟩
    · exact ho.elim
  obtain ⟨fs, e, hF⟩ := h1
  by_cases hq : q < 16
  · exfalso
    rcases (hr.2.2.2.1 q hq).2 with ⟨n, f, e1, -⟩ | ⟨fs1, e1⟩
    · rw [e] at e1; cases e1
    · rw [e] at e1; cases e1
  · have h2 := hr.2.2.2.2 q (by omega)
    rw [e] at h2
    obtain ⟨r, q1, q2, q3⟩ := h2
    exact ⟨by omega, fs, r, e, hF, q1, q2, q3⟩
section ZH
variable {p : Program} {l : Launch} {e : Env} {R : Room} {s : State} {m : MethodId} {args : Array Value} {below : List Frame} {meth : Method} {c : Code} {Qf : State → Prop} {G : zG} {cc : ByteArray} {n pc : Nat} {K J : zK} {L : zL} {S : List Value} {h : zH} {kc ks : Nat} {own : String}
theorem zs_getfield (hx : p.tables.exec = Jvm.exec) (hb : c.code = cc) (hCL : zCLok) (hts : ∀ w ∈ zGW, w.before args s = true) (hown : s.vm.findClass own = some m.cls) (hKn : zKn G s) {i a b : Nat} (hF : zFl own i a b) (hd : decode cc pc = .ok (.getfield i, 3)) (hK : zimp K (zsim p l e R s m args below meth c G n Qf (pc + 3)))
    (hst : zr1 S fun q S => zob (h.1 q) a fun fs => zfd fs b fun v => K L (v :: S) h kc ks) : zsim p l e R s m args below meth c G n Qf pc L S h kc ks := by
  intro H locs ls hr hl hv
  match S, hst with
  | .ref q :: S, hst =>
    obtain ⟨h16, fs, r, e1, hf, hc, hlen, hob⟩ := zobj hr hst
    obtain ⟨r2, hc2, hk, hlink⟩ := hF
    cases hc.symm.trans hc2
    unfold zfd at hf
    split at hf
    · rename_i v hv0
      have hP : va_P (zdC G, zdI G) zcl [(zad G q, .inr (a, fs.map (zv G)))] H := by
        intro k x hx0
        have hz : k < 1 := (List.getElem?_eq_some_iff.mp hx0).1
        rw [show k = 0 by omega] at hx0
        cases hx0
        exact ⟨_, hc, hob⟩
      exact va_get (D := (zdC G, zdI G)) (cl := zcl) (C := r.1) (T := r.2.1) (N := r.2.2) hx hb hts (hCL a r hc).1 hown hKn hP 0 rfl hc b hk (hts _ hlink) (fun _ z => z) (v := zv G v) (by rw [List.getElem?_map, hv0]; rfl) hd (hK _ _ _ _ _ hf H locs ls hr hl hv)
    · exact hf.elim
theorem zs_putfield (hx : p.tables.exec = Jvm.exec) (hb : c.code = cc) (hCL : zCLok) (hts : ∀ w ∈ zGW, w.before args s = true) (hown : s.vm.findClass own = some m.cls) (hKn : zKn G s) {i a b : Nat} (hF : zFl own i a b) (hfin : ∀ r : vw_C, zcl[a]? = some r → (r.2.1 b).2.2.2 = false ∨ (meth.name = "<init>" ∧ (r.2.1 b).1 = own)) (hd : decode cc pc = .ok (.putfield i, 3)) (hK : zimp K (zsim p l e R s m args below meth c G n Qf (pc + 3)))
    (hst : zvr S fun v q S => zob (h.1 q) a fun fs => 16 ≤ q ∧ b < fs.length ∧ zfit (zty a b) v = true ∧ K L S (zup h q (.inr (a + 1, fs.set b v))) kc ks) : zsim p l e R s m args below meth c G n Qf pc L S h kc ks := by
  intro H locs ls hr hl hv
  match S, hst with
  | v :: .ref q :: S, hst =>
    obtain ⟨h16, fs, r, e1, ⟨-, hbl, hfit, hf⟩, hc, hlen, hob⟩ := zobj hr hst
    obtain ⟨r2, hc2, hk, hlink⟩ := hF
    cases hc.symm.trans hc2
    obtain ⟨hin, hty, hnm, -, -⟩ := hCL a r hc
    obtain ⟨hn, hft⟩ := zv_fit (G := G) hfit
    obtain ⟨C, T, N⟩ := r
    have hap := va_apart (D := (zdC G, zdI G)) (own := own) hts hin (zty a) hty hnm hKn hc
    obtain ⟨cell, q1, q2, q3, q4⟩ := hob
    obtain ⟨hS, hfc, kC, hkC, hkind⟩ := hKn.1 a _ hc
    obtain ⟨cf, kf, fi, f, hi, hsl⟩ := hS b hk
    have hlay := hts _ (hin _ (u_in_lay hk))
    have hst := (u_facts hfc hkC (u_lays hts hin hk) hi).1
    have hml : b < (fs.map (zv G)).length := by rw [List.length_map]; exact hbl
    have done : ∀ H' : Heap, H'[zad G q]? = some (cell.setSlot f.slot (zv G v)) → H'.size = H.size → (∀ x, x ≠ zad G q → H'[x]? = H[x]?) → W p l e R s m args below meth c H' (locs ++ [⟨zad G q, f.slot⟩]) kc ks Qf (F0 m (pc + 3) ls (S.map (zv G))) := by
      intro H' g1 g2 g3
      rw [hsl] at g1
      refine hK _ _ _ _ _ hf H' _ ls (hr.put h16 g2 g3 ?_) (fun x hx0 => ?_) hv
      · refine ⟨_, hc, by rw [List.length_set]; exact hlen, ?_⟩
        refine t_OB.to (V := updV (vp_V (fs.map (zv G))) b (zv G v)) ⟨_, g1, q2, q3, t_set q4 hap hk _⟩ (fun j _ => ?_)
        rw [List.map_set]
        exact vp_updV_set hml (zv G v) j
      · rcases List.mem_append.mp hx0 with hx0 | hx0
        · exact hl x hx0
        · rw [List.mem_singleton.mp hx0]
          show zb0 G ≤ zad G q
          rw [zad_hi h16]; omega
    unfold u_lay at hlay
    rcases hfin _ hc with hfin | ⟨hin2, hdecl⟩
    · rw [if_neg (by rw [hfin]; decide)] at hlay
      have h6 := u_store hfc hkC hkind hlay hi (hty b hk) hn hft
      exact W.putK hx hb (f := f) ⟨hown, hts _ hlink, ⟨_, _, _, hi⟩, hst⟩ (by rw [q2]; exact h6) q1 q3 (by rw [hsl]; exact k2_hasslot (q4 b hk)) rfl rfl hd done
    · by_cases hfin : (T b).2.2.2 = true
      · rw [if_pos hfin] at hlay
        have hcf : m.cls = cf := by
          obtain ⟨_, _, c', _, _, _, -, -, hf', -, -, -, hown2, -⟩ := Cond.laysFinal_spec hlay
          have e1 : c' = cf := by have := hi.symm.trans hf'; simp at this; exact this.1.symm
          rw [hdecl] at hown2
          rw [← e1]; exact Option.some.inj (hown.symm.trans hown2)
        have h6 := u_fits hfc hkC hkind (Or.inr hlay) hi (hty b hk) hn hft
        exact W.putFinK hx hb hown (hts _ hlink) hi hst hcf hin2 (by rw [q2]; exact h6) q1 q3 (by rw [hsl]; exact k2_hasslot (q4 b hk)) rfl rfl hd done
      · rw [if_neg hfin] at hlay
        have h6 := u_store hfc hkC hkind hlay hi (hty b hk) hn hft
        exact W.putK hx hb (f := f) ⟨hown, hts _ hlink, ⟨_, _, _, hi⟩, hst⟩ (by rw [q2]; exact h6) q1 q3 (by rw [hsl]; exact k2_hasslot (q4 b hk)) rfl rfl hd done
theorem zarI {U : State} {H : Heap} {q : Nat} {F : Nat → (Nat → Int32) → Prop} (hr : zrel G U h H) (ho : zaI (h.1 q) F) : ∃ (n : Nat) (f : Nat → Int32), h.1 q = .inl (0, n, .inl f) ∧ F n f ∧ ((q < 16 ∧ va_X (zad G q) n f U H) ∨ (16 ≤ q ∧ H[zad G q]? = some (vp_cell (zdA G 0) (n, .inl f)))) := by
  have h1 : ∃ (n : Nat) (f : Nat → Int32), h.1 q = .inl (0, n, .inl f) ∧ F n f := by
    unfold zaI at ho
    split at ho
    · rename_i n f e
      exact ⟨n, f, e, ho⟩
    · exact ho.elim
  obtain ⟨n, f, e, hF⟩ := h1
  refine ⟨n, f, e, hF, ?_⟩
  by_cases hq : q < 16
  · rcases (hr.2.2.2.1 q hq).2 with ⟨n1, f1, e1, h2⟩ | ⟨fs1, e1⟩
    · rw [e] at e1
      cases e1
      exact Or.inl ⟨hq, by unfold zad; rw [if_pos hq]; exact h2⟩
    · rw [e] at e1; cases e1
  · have h2 := hr.2.2.2.2 q (by omega)
    rw [e] at h2
    exact Or.inr ⟨by omega, h2⟩
theorem zarL {U : State} {H : Heap} {q : Nat} {F : Nat → (Nat → Int64) → Prop} (hr : zrel G U h H) (ho : zaL (h.1 q) F) : ∃ (n : Nat) (f : Nat → Int64), h.1 q = .inl (1, n, .inr (.inl f)) ∧ F n f ∧ 16 ≤ q ∧ H[zad G q]? = some (vp_cell (zdA G 1) (n, .inr (.inl f))) := by
  have h1 : ∃ (n : Nat) (f : Nat → Int64), h.1 q = .inl (1, n, .inr (.inl f)) ∧ F n f := by
    unfold zaL at ho
    split at ho
    · rename_i n f e
      exact ⟨n, f, e, ho⟩
    · exact ho.elim
  obtain ⟨n, f, e, hF⟩ := h1
  refine ⟨n, f, e, hF, ?_⟩
  by_cases hq : q < 16
  · exfalso
    rcases (hr.2.2.2.1 q hq).2 with ⟨n1, f1, e1, h2⟩ | ⟨fs1, e1⟩
    · rw [e] at e1; cases e1
    · rw [e] at e1; cases e1
  · have h2 := hr.2.2.2.2 q (by omega)
    rw [e] at h2
    exact ⟨by omega, h2⟩
theorem zarR {U : State} {H : Heap} {q : Nat} {F : Nat → (Nat → Option Nat) → Prop} (hr : zrel G U h H) (ho : zaR (h.1 q) F) : ∃ (n : Nat) (f : Nat → Option Nat), h.1 q = .inl (2, n, .inr (.inr (.inr (.inr f)))) ∧ F n f ∧ 16 ≤ q ∧ H[zad G q]? = some (vp_cell (zdA G 2) (n, .inr (.inr (.inr (.inr (fun j => (f j).map (zad G))))))) := by
  have h1 : ∃ (n : Nat) (f : Nat → Option Nat), h.1 q = .inl (2, n, .inr (.inr (.inr (.inr f)))) ∧ F n f := by
    unfold zaR at ho
    split at ho
    · rename_i n f e
      exact ⟨n, f, e, ho⟩
    · exact ho.elim
  obtain ⟨n, f, e, hF⟩ := h1
  refine ⟨n, f, e, hF, ?_⟩
  by_cases hq : q < 16
  · exfalso
    rcases (hr.2.2.2.1 q hq).2 with ⟨n1, f1, e1, h2⟩ | ⟨fs1, e1⟩
    · rw [e] at e1; cases e1
    · rw [e] at e1; cases e1
  · have h2 := hr.2.2.2.2 q (by omega)
    rw [e] at h2
    exact ⟨by omega, h2⟩
theorem zs_iaload (hx : p.tables.exec = Jvm.exec) (hb : c.code = cc) (hKn : zKn G s) (hd : decode cc pc = .ok (.iaload, 1)) (hK : zimp K (zsim p l e R s m args below meth c G n Qf (pc + 1)))
    (hst : zir S fun j q S => zaI (h.1 q) fun n f => vp_in j n ∧ K L (.int (f j.toNatClampNeg) :: S) h kc ks) : zsim p l e R s m args below meth c G n Qf pc L S h kc ks := by
  intro H locs ls hr hl hv
  match S, hst with
  | .int j :: .ref q :: S, hst =>
    obtain ⟨N, f, e1, ⟨hin, hf⟩, ⟨h16, scr, g1, g2, g3, g4, g5⟩ | ⟨h16, g1⟩⟩ := zarI hr hst
    · have hlt : j.toNatClampNeg < N := Nat.not_le.mp fun z => hin (Or.inr z)
      exact W.iald (v := .int (f j.toNatClampNeg)) hx hb g1 g2 g3 (by rw [g4]; exact hin) (g5 _ hlt) rfl rfl hd (hK _ _ _ _ _ hf H locs ls hr hl hv)
    · have hlt : j.toNatClampNeg < N := Nat.not_le.mp fun z => hin (Or.inr z)
      exact W.iald (v := .int (f j.toNatClampNeg)) hx hb g1 ((hKn.2 0 _ rfl).1 N (fun j => .int (f j))) (fun z => by cases z) (by show ¬ (j < 0 ∨ (arrV _ _ _).slots.size ≤ _); rw [arrV_size]; exact hin) (by show (arrV _ _ _).slots[_]? = _; rw [arrV_read _ _ hlt]) rfl rfl hd (hK _ _ _ _ _ hf H locs ls hr hl hv)
theorem zs_laload (hx : p.tables.exec = Jvm.exec) (hb : c.code = cc) (hKn : zKn G s) (hd : decode cc pc = .ok (.laload, 1)) (hK : zimp K (zsim p l e R s m args below meth c G n Qf (pc + 1)))
    (hst : zir S fun j q S => zaL (h.1 q) fun n f => vp_in j n ∧ K L (.long (f j.toNatClampNeg) :: S) h kc ks) : zsim p l e R s m args below meth c G n Qf pc L S h kc ks := by
  intro H locs ls hr hl hv
  match S, hst with
  | .int j :: .ref q :: S, hst =>
    obtain ⟨N, f, e1, ⟨hin, hf⟩, h16, g1⟩ := zarL hr hst
    have hlt : j.toNatClampNeg < N := Nat.not_le.mp fun z => hin (Or.inr z)
    exact W.lald (v := .long (f j.toNatClampNeg)) hx hb g1 ((hKn.2 1 _ rfl).1 N (fun j => .long (f j))) (fun z => by cases z) (by show ¬ (j < 0 ∨ (arrV _ _ _).slots.size ≤ _); rw [arrV_size]; exact hin) (by show (arrV _ _ _).slots[_]? = _; rw [arrV_read _ _ hlt]) rfl rfl hd (hK _ _ _ _ _ hf H locs ls hr hl hv)
theorem zs_aaload (hx : p.tables.exec = Jvm.exec) (hb : c.code = cc) (hKn : zKn G s) (hd : decode cc pc = .ok (.aaload, 1)) (hK : zimp K (zsim p l e R s m args below meth c G n Qf (pc + 1)))
    (hst : zir S fun j q S => zaR (h.1 q) fun n f => vp_in j n ∧ K L (va_rf (f j.toNatClampNeg) :: S) h kc ks) : zsim p l e R s m args below meth c G n Qf pc L S h kc ks := by
  intro H locs ls hr hl hv
  match S, hst with
  | .int j :: .ref q :: S, hst =>
    obtain ⟨N, f, e1, ⟨hin, hf⟩, h16, g1⟩ := zarR hr hst
    have hlt : j.toNatClampNeg < N := Nat.not_le.mp fun z => hin (Or.inr z)
    have e2 : zv G (va_rf (f j.toNatClampNeg)) = va_rf ((f j.toNatClampNeg).map (zad G)) := by cases f j.toNatClampNeg <;> rfl
    have kk := hK _ _ _ _ _ hf H locs ls hr hl hv
    rw [List.map_cons, e2] at kk
    exact W.aald (ty := .array .int) (v := va_rf ((f j.toNatClampNeg).map (zad G))) hx hb g1 ((hKn.2 2 _ rfl).1 N (fun j => va_rf ((f j).map (zad G)))) rfl (fun z => by cases z) (by show ¬ (j < 0 ∨ (arrV _ _ _).slots.size ≤ _); rw [arrV_size]; exact hin) (by show (arrV _ _ _).slots[_]? = _; rw [arrV_read _ _ hlt]) rfl rfl hd kk
theorem zs_iastore (hx : p.tables.exec = Jvm.exec) (hb : c.code = cc) (hKn : zKn G s) (hd : decode cc pc = .ok (.iastore, 1)) (hK : zimp K (zsim p l e R s m args below meth c G n Qf (pc + 1)))
    (hst : ziir S fun x j q S => zaI (h.1 q) fun n f => 16 ≤ q ∧ vp_in j n ∧ K L S (zup h q (.inl (0, n, .inl (upd f j.toNatClampNeg x)))) kc ks) : zsim p l e R s m args below meth c G n Qf pc L S h kc ks := by
  intro H locs ls hr hl hv
  match S, hst with
  | .int x :: .int j :: .ref q :: S, hst =>
    obtain ⟨N, f, e1, ⟨h17, hin, hf⟩, ⟨h16, -⟩ | ⟨h16, g1⟩⟩ := zarI hr hst
    · omega
    · refine W.iast hx hb g1 ((hKn.2 0 _ rfl).1 N (fun j => .int (f j))) (fun z => by cases z) (by show ¬ (j < 0 ∨ (arrV _ _ _).slots.size ≤ _); rw [arrV_size]; exact hin) rfl rfl hd fun H1 g2 g3 g4 => ?_
      refine hK _ _ _ _ _ hf H1 _ ls (hr.put h16 g3 g4 ?_) (fun y hy => ?_) hv
      · show H1[zad G q]? = some (vp_cell _ _)
        rw [g2]
        show some ((arrV (zdA G 0) N fun j => .int (f j)).setSlot _ _) = some (arrV (zdA G 0) N fun i => .int (upd f j.toNatClampNeg x i))
        rw [arrV_store]
        congr 2
        funext i
        by_cases hi : i = j.toNatClampNeg
        · subst hi
          simp [updV, upd]
        · simp [updV, upd, hi]
      · rcases List.mem_append.mp hy with hy | hy
        · exact hl y hy
        · rw [List.mem_singleton.mp hy]
          show zb0 G ≤ zad G q
          rw [zad_hi h16]; omega
theorem zs_lastore (hx : p.tables.exec = Jvm.exec) (hb : c.code = cc) (hKn : zKn G s) (hd : decode cc pc = .ok (.lastore, 1)) (hK : zimp K (zsim p l e R s m args below meth c G n Qf (pc + 1)))
    (hst : zlir S fun x j q S => zaL (h.1 q) fun n f => 16 ≤ q ∧ vp_in j n ∧ K L S (zup h q (.inl (1, n, .inr (.inl (vp_updL f j.toNatClampNeg x))))) kc ks) : zsim p l e R s m args below meth c G n Qf pc L S h kc ks := by
  intro H locs ls hr hl hv
  match S, hst with
  | .long x :: .int j :: .ref q :: S, hst =>
    obtain ⟨N, f, e1, ⟨h17, hin, hf⟩, h16, g1⟩ := zarL hr hst
    refine W.last hx hb g1 ((hKn.2 1 _ rfl).1 N (fun j => .long (f j))) (fun z => by cases z) (by show ¬ (j < 0 ∨ (arrV _ _ _).slots.size ≤ _); rw [arrV_size]; exact hin) rfl rfl hd fun H1 g2 g3 g4 => ?_
    refine hK _ _ _ _ _ hf H1 _ ls (hr.put h16 g3 g4 ?_) (fun y hy => ?_) hv
    · show H1[zad G q]? = some (vp_cell _ _)
      rw [g2]
      show some ((arrV (zdA G 1) N fun j => .long (f j)).setSlot _ _) = some (arrV (zdA G 1) N fun i => .long (vp_updL f j.toNatClampNeg x i))
      rw [arrV_store]
      congr 2
      funext i
      by_cases hi : i = j.toNatClampNeg
      · subst hi
        simp [updV, vp_updL]
      · simp [updV, vp_updL, hi]
    · rcases List.mem_append.mp hy with hy | hy
      · exact hl y hy
      · rw [List.mem_singleton.mp hy]
        show zb0 G ≤ zad G q
        rw [zad_hi h16]; omega
theorem zs_arraylength (hx : p.tables.exec = Jvm.exec) (hb : c.code = cc) (hKn : zKn G s) (hd : decode cc pc = .ok (.arraylength, 1)) (hK : zimp K (zsim p l e R s m args below meth c G n Qf (pc + 1)))
    (hst : zr1 S fun q S => zlen (h.1 q) fun n => K L (.int n.toInt32 :: S) h kc ks) : zsim p l e R s m args below meth c G n Qf pc L S h kc ks := by
  intro H locs ls hr hl hv
  match S, hst with
  | .ref q :: S, hst =>
    have h1 : ∃ (d N : Nat) (y : _), h.1 q = .inl (d, N, y) ∧ d < 3 ∧ K L (.int N.toInt32 :: S) h kc ks := by
      have ho : zlen (h.1 q) fun n => K L (.int n.toInt32 :: S) h kc ks := hst
      unfold zlen at ho
      split at ho
      · rename_i d n1 y e
        exact ⟨d, n1, y, e, ho.1, ho.2⟩
      · exact ho.elim
    obtain ⟨d, N, y, e1, hd3, hf⟩ := h1
    by_cases hq : q < 16
    · rcases (hr.2.2.2.1 q hq).2 with ⟨n1, f1, e2, scr, g1, g2, g3, g4, g5⟩ | ⟨fs1, e2⟩
      · rw [e1] at e2
        cases e2
        exact W.alen (n := N.toInt32) hx hb (by unfold zad; rw [if_pos hq]; exact g1) g2 (by rw [g4]) rfl rfl hd (hK _ _ _ _ _ hf H locs ls hr hl hv)
      · rw [e1] at e2; cases e2
    · have h2 := hr.2.2.2.2 q (Nat.not_lt.mp hq)
      rw [e1] at h2
      have g1 : H[zad G q]? = some (vp_cell (zdA G d) (zva G (N, y))) := h2
      have hAr : ∃ ty, ArrOfT s (zdA G d) ty := by
        rcases (show d = 0 ∨ d = 1 ∨ d = 2 by omega) with rfl | rfl | rfl
        · exact ⟨_, (hKn.2 0 _ rfl).1⟩
        · exact ⟨_, (hKn.2 1 _ rfl).1⟩
        · exact ⟨_, (hKn.2 2 _ rfl).1⟩
      obtain ⟨ty, hAr⟩ := hAr
      obtain ⟨z, hz⟩ : ∃ z : Nat → Value, vp_cell (zdA G d) (zva G (N, y)) = arrV (zdA G d) N z := by
        match y with
        | .inl f => exact ⟨fun j => .int (f j), rfl⟩
        | .inr (.inl f) => exact ⟨fun j => .long (f j), rfl⟩
        | .inr (.inr (.inl f)) => exact ⟨fun j => .float (f j), rfl⟩
        | .inr (.inr (.inr (.inl f))) => exact ⟨fun j => .double (f j), rfl⟩
        | .inr (.inr (.inr (.inr f))) => exact ⟨fun j => va_rf ((f j).map (zad G)), rfl⟩
      rw [hz] at g1
      exact W.alen (n := N.toInt32) hx hb g1 (hAr N z) (by rw [arrV_size]) rfl rfl hd (hK _ _ _ _ _ hf H locs ls hr hl hv)
theorem zs_new (hx : p.tables.exec = Jvm.exec) (hb : c.code = cc) (hCL : zCLok) (hts : ∀ w ∈ zGW, w.before args s = true) (hown : s.vm.findClass own = some m.cls) (hKn : zKn G s) {i a : Nat} {r : vw_C} (hc : zcl[a]? = some r) (w1 : Cond.classLink own i r.1 ∈ zGW) (w2 : Cond.instantiable r.1 r.2.2 ∈ zGW) (w3 : Cond.initialized r.1 ∈ zGW) (hd : decode cc pc = .ok (.new i, 3)) (hK : zimp K (zsim p l e R s m args below meth c G n Qf (pc + 3)))
    (hst : kc + 1 ≤ R.cells ∧ ks + zsz.getD a 0 ≤ R.slots ∧ K L (.ref h.2 :: S) (znew h (.inr (a + 1, zdfs a))) (kc + 1) (ks + zsz.getD a 0)) : zsim p l e R s m args below meth c G n Qf pc L S h kc ks := by
  intro H locs ls hr hl hv
  obtain ⟨hc1, hs1, hf⟩ := hst
  obtain ⟨hin, hty, hnm, hsz, hdf⟩ := hCL a r hc
  have ht := hr.top
  rw [hsz] at hs1 hf
  have hKa := hKn.1 a _ hc
  refine W.newcK hx hb hown (hts _ w1) (hts _ w2) (hts _ w3) rfl hd hc1 hs1 hKa.2.1 rfl fun H1 kC hkC e1 z1 o1 => ?_
  have kk := hK _ _ _ _ _ hf H1 locs ls (hr.new z1 o1 ?_) hl hv
  · have e9 : (Value.ref h.2 :: S).map (zv G) = .ref H.size :: S.map (zv G) := by
      rw [List.map_cons]
      show Value.ref (zad G h.2) :: _ = _
      rw [ht]
    rw [e9] at kk
    exact kk
  · refine ⟨r, hc, by unfold zdfs; rw [List.length_map, List.length_range, hsz], ?_⟩
    rw [ht]
    refine (u_born (zty a) hts hin hKa hkC e1 hty).to (fun k hk => ?_)
    rw [hdf k hk]
    unfold zdfs vp_V
    rw [hsz]
    simp [hk, zv_def]
theorem zs_newarrayI (hx : p.tables.exec = Jvm.exec) (hb : c.code = cc) (hts : ∀ w ∈ zGW, w.before args s = true) (hKn : zKn G s) (w1 : Cond.arrayClass .int ∈ zGW) (hd : decode cc pc = .ok (.newarray .int, 2)) (hK : zimp K (zsim p l e R s m args below meth c G n Qf (pc + 2)))
    (hst : zi1 S fun n S => ¬ n < 0 ∧ n.toNatClampNeg ≤ 1000000 ∧ kc + 1 ≤ R.cells ∧ ks + n.toNatClampNeg ≤ R.slots ∧ K L (.ref h.2 :: S) (znew h (.inl (0, n.toNatClampNeg, .inl (fun _ => 0)))) (kc + 1) (ks + n.toNatClampNeg)) : zsim p l e R s m args below meth c G n Qf pc L S h kc ks := by
  intro H locs ls hr hl hv
  match S, hst with
  | .int N :: S, hst =>
    obtain ⟨hn, hbig, hc1, hs1, hf⟩ := hst
    have ht := hr.top
    refine W.newa hx hb (atype := .int) (hts _ w1) rfl hd rfl hn (by show N.toNatClampNeg * 4 ≤ _; omega) hc1 hs1 fun cA kA comp g1 g2 g3 => ?_
    have eA : cA = zdA G 0 := Option.some.inj (g1.symm.trans (hKn.2 0 _ rfl).2)
    subst eA
    have kk := hK _ _ _ _ _ hf _ locs ls (hr.new (H1 := H.push { cls := zdA G 0, slots := Array.replicate N.toNatClampNeg (.int 0), vm := .none }) (by simp) (fun q hq => by simp [Array.getElem?_push, Nat.ne_of_lt hq]) ?_) hl hv
    · have e9 : (Value.ref h.2 :: S).map (zv G) = .ref H.size :: S.map (zv G) := by
        rw [List.map_cons]
        show Value.ref (zad G h.2) :: _ = _
        rw [ht]
      rw [e9] at kk
      exact kk
    · show _ = some (arrV (zdA G 0) N.toNatClampNeg (fun _ => .int 0))
      rw [ht, ← arrV_new]
      simp
theorem zs_newarrayL (hx : p.tables.exec = Jvm.exec) (hb : c.code = cc) (hts : ∀ w ∈ zGW, w.before args s = true) (hKn : zKn G s) (w1 : Cond.arrayClass .long ∈ zGW) (hd : decode cc pc = .ok (.newarray .long, 2)) (hK : zimp K (zsim p l e R s m args below meth c G n Qf (pc + 2)))
    (hst : zi1 S fun n S => ¬ n < 0 ∧ n.toNatClampNeg ≤ 1000000 ∧ kc + 1 ≤ R.cells ∧ ks + n.toNatClampNeg ≤ R.slots ∧ K L (.ref h.2 :: S) (znew h (.inl (1, n.toNatClampNeg, .inr (.inl (fun _ => 0))))) (kc + 1) (ks + n.toNatClampNeg)) : zsim p l e R s m args below meth c G n Qf pc L S h kc ks := by
  intro H locs ls hr hl hv
  match S, hst with
  | .int N :: S, hst =>
    obtain ⟨hn, hbig, hc1, hs1, hf⟩ := hst
    have ht := hr.top
    refine W.newa hx hb (atype := .long) (hts _ w1) rfl hd rfl hn (by show N.toNatClampNeg * 8 ≤ _; omega) hc1 hs1 fun cA kA comp g1 g2 g3 => ?_
    have eA : cA = zdA G 1 := Option.some.inj (g1.symm.trans (hKn.2 1 _ rfl).2)
    subst eA
    have kk := hK _ _ _ _ _ hf _ locs ls (hr.new (H1 := H.push { cls := zdA G 1, slots := Array.replicate N.toNatClampNeg (.long 0), vm := .none }) (by simp) (fun q hq => by simp [Array.getElem?_push, Nat.ne_of_lt hq]) ?_) hl hv
    · have e9 : (Value.ref h.2 :: S).map (zv G) = .ref H.size :: S.map (zv G) := by
        rw [List.map_cons]
        show Value.ref (zad G h.2) :: _ = _
        rw [ht]
      rw [e9] at kk
      exact kk
    · show _ = some (arrV (zdA G 1) N.toNatClampNeg (fun _ => .long 0))
      rw [ht, ← arrV_new]
      simp
end ZH
